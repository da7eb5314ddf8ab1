set_option maxHeartbeats 4000000 in
theorem sp_X12_feed (G : kG9) {d : Nat} (hd : 0 ≤ d) (σ : St) (a0 : Int32) (a1 : Int32) (a2 : Int32) (a3 : Int32) (a4 : Int32) (r1 : 0 ≤ (gi σ 84 2).toInt ∧ (gi σ 84 2).toInt ≤ 2000) : Ct G M_X12_feed d [.ref 84, .int a0, .int a1, .int a2, .int a3, .int a4] σ (fun r σ' => ∃ x : Int32, r = some (.int x) ∧ Fm [208] [0, 2] σ σ' ∧ (0 ≤ (gi σ' 84 2).toInt ∧ (gi σ' 84 2).toInt ≤ 2000) ∧ True) := by
  refine wa_start (by decide) rfl (Nat.le_of_ble_eq_true rfl) (lv := [(0, .ref 84), (1, .int a0), (2, .int a1), (3, .int a2), (4, .int a3), (5, .int a4)]) rfl o_X12_feed_0 rfl ?_
  have ua0 := Int32.toInt_lt a0
  have wa0 := Int32.le_toInt a0
  have ua1 := Int32.toInt_lt a1
  have wa1 := Int32.le_toInt a1
  have ua2 := Int32.toInt_lt a2
  have wa2 := Int32.le_toInt a2
  have ua3 := Int32.toInt_lt a3
  have wa3 := Int32.le_toInt a3
  have ua4 := Int32.toInt_lt a4
  have wa4 := Int32.le_toInt a4
  refine wa_aload_n (i := 0) rfl rfl ?_
  refine wa_aload_n (i := 0) rfl rfl ?_
  refine wa_geti ck_12 fl_12_485 ly_84 ?_
  refine wa_bipush (v := 20) (by decide) ?_
  refine wa_iadd ?_
  refine wa_top (fun v1 hv1 => ?_)
  have tv1 := i_addT hv1
  clear hv1
  refine wa_sipush (v := 2000) (by decide) ?_
  refine wa_icmp_le o_X12_feed_18 (by decide) (fun h2 => ?_) (fun h2 => ?_)
  · refine wa_iconst (v := 0) (by decide) ?_
    refine wa_puti ck_12 fl_12_3 ly_84 (fun s3 hs3 => ?_)
    have Fs3 : Fm [208] [0, 2] σ s3 := by rw [hs3]; exact Fm.si (Fm.rf [208] [0, 2] σ) rfl
    refine wa_aload_n (i := 0) rfl rfl ?_
    refine wa_geti ck_12 fl_12_3 ly_84 ?_
    refine wa_rw (nxe_gi_si hs3) ?_
    refine wa_if_le o_X12_feed_31 (by decide) (fun h4 => ?_) (fun h4 => ?_)
    · refine wa_iconst (v := 0) (by decide) ?_
      refine wa_istoreD (lv' := [(6, .int 0), (0, .ref 84), (1, .int a0), (2, .int a1), (3, .int a2), (4, .int a3), (5, .int a4)]) (by decide) rfl ?_
      refine wa_pick [1, 2, 3, 4, 5, 6, 0] rfl ?_
      have hi7 : ∀ (n9_34 : Nat) (l6 : Int32) (s5 : St), ((Fm [208] [0, 2] σ s5) ∧ (gi s5 84 0 = (0 : Int32)) ∧ (0 ≤ l6.toInt) ∧ ((gi s5 84 2).toInt ≤ 1980 + l6.toInt) ∧ (0 ≤ (gi s5 84 2).toInt ∧ (gi s5 84 2).toInt ≤ 2000) ∧ (True)) → (2147483647 - l6.toInt).toNat = n9_34 → WA G M_X12_feed (ZM G M_X12_feed d (fun r σ' => ∃ x : Int32, r = some (.int x) ∧ Fm [208] [0, 2] σ σ' ∧ (0 ≤ (gi σ' 84 2).toInt ∧ (gi σ' 84 2).toInt ≤ 2000) ∧ True)) B_X12_feed_34 [(0, .ref 84), (1, .int a0), (2, .int a1), (3, .int a2), (4, .int a3), (5, .int a4), (6, .int l6)] [] s5 := by
        intro n9_34
        induction n9_34 using Nat.strongRecOn with
        | _ n9_34 ih6 =>
          intro l6 s5 i9 m9_34
          obtain ⟨Fs5, khi7_0, jhi7_0, jhi7_1, jhi7_2, -⟩ := i9
          have ul6 := Int32.toInt_lt l6
          have wl6 := Int32.le_toInt l6
          refine wa_iload rfl ?_
          refine wa_bipush (v := 20) (by decide) ?_
          refine wa_icmp_ge o_X12_feed_128 (by decide) (fun h8 => ?_) (fun h8 => ?_)
          · refine wa_aload_n (i := 0) rfl rfl ?_
            refine wa_geti ck_12 fl_12_485 ly_84 ?_
            refine wa_ireturn rfl rfl ?_
            exact ⟨_, rfl, Fs5, (by first | assumption | (((try simp only [vp_in_iff, Int32.lt_iff_toInt_lt, Int32.le_iff_toInt_le, ← Int32.toInt_inj, Int32.reduceToInt, n_1, n_2, n_8, Int32.toNatClampNeg, Int64.lt_iff_toInt_lt, Int64.le_iff_toInt_le, ← Int64.toInt_inj, Int64.reduceToInt, Int32.toInt_toInt64, lg_cmp_ge, lg_cmp_le, lg_cmp_gt, lg_cmp_lt, lg_cmp_eq, Bool.false_eq_true, Bool.true_eq_false, reduceCtorEq, false_iff, true_iff, iff_true, iff_false, and_true, true_and, and_false, false_and, reduceIte, ite_true, ite_false, eq_self] at *)) <;> omega)), trivial⟩
          · have mh8 := nle_mx h8
            refine wa_iload rfl ?_
            refine wa_iconst (v := 4) (by decide) ?_
            refine wa_icmp_ge o_X12_feed_51 (by decide) (fun h9 => ?_) (fun h9 => ?_)
            · refine wa_iload rfl ?_
              refine wa_bipush (v := 8) (by decide) ?_
              refine wa_icmp_ge o_X12_feed_62 (by decide) (fun h10 => ?_) (fun h10 => ?_)
              · refine wa_iload rfl ?_
                refine wa_bipush (v := 12) (by decide) ?_
                refine wa_icmp_ge o_X12_feed_73 (by decide) (fun h11 => ?_) (fun h11 => ?_)
                · refine wa_iload rfl ?_
                  refine wa_bipush (v := 16) (by decide) ?_
                  refine wa_icmp_ge o_X12_feed_85 (by decide) (fun h12 => ?_) (fun h12 => ?_)
                  · refine wa_iload rfl ?_
                    refine wa_istoreD (lv' := [(7, .int a4), (0, .ref 84), (1, .int a0), (2, .int a1), (3, .int a2), (4, .int a3), (5, .int a4), (6, .int l6)]) (by decide) rfl ?_
                    refine wa_aload_n (i := 0) rfl rfl ?_
                    refine wa_getr ck_12 fl_12_15 ly_84 rf_84_1 ?_
                    refine wa_aload_n (i := 0) rfl rfl ?_
                    refine wa_geti ck_12 fl_12_485 ly_84 ?_
                    refine wa_iload rfl ?_
                    refine wa_bipush (v := 24) (by decide) ?_
                    refine wa_bipush (v := 8) (by decide) ?_
                    refine wa_iload rfl ?_
                    refine wa_iconst (v := 4) (by decide) ?_
                    refine wa_irem (by ((try simp only [vp_in_iff, Int32.lt_iff_toInt_lt, Int32.le_iff_toInt_le, ← Int32.toInt_inj, Int32.reduceToInt, n_1, n_2, n_8, Int32.toNatClampNeg, Int64.lt_iff_toInt_lt, Int64.le_iff_toInt_le, ← Int64.toInt_inj, Int64.reduceToInt, Int32.toInt_toInt64, lg_cmp_ge, lg_cmp_le, lg_cmp_gt, lg_cmp_lt, lg_cmp_eq, Bool.false_eq_true, Bool.true_eq_false, reduceCtorEq, false_iff, true_iff, iff_true, iff_false, and_true, true_and, and_false, false_and, reduceIte, ite_true, ite_false, eq_self] at *)) <;> omega) ?_
                    refine wa_top (fun v13 hv13 => ?_)
                    have tv13 := i_remU hv13
                    clear hv13
                    refine wa_imul ?_
                    refine wa_top (fun v14 hv14 => ?_)
                    have tv14 := i_mulT hv14
                    clear hv14
                    refine wa_isub ?_
                    refine wa_top (fun v15 hv15 => ?_)
                    have tv15 := i_subT hv15
                    clear hv15
                    refine wa_ishr ?_
                    refine wa_top (fun v16 hv16 => ?_)
                    clear hv16
                    refine wa_i2b ?_
                    refine wa_top (fun v17 hv17 => ?_)
                    clear hv17
                    refine wa_bast ly_208 (by ((try simp only [vp_in_iff, Int32.lt_iff_toInt_lt, Int32.le_iff_toInt_le, ← Int32.toInt_inj, Int32.reduceToInt, n_1, n_2, n_8, Int32.toNatClampNeg, Int64.lt_iff_toInt_lt, Int64.le_iff_toInt_le, ← Int64.toInt_inj, Int64.reduceToInt, Int32.toInt_toInt64, lg_cmp_ge, lg_cmp_le, lg_cmp_gt, lg_cmp_lt, lg_cmp_eq, Bool.false_eq_true, Bool.true_eq_false, reduceCtorEq, false_iff, true_iff, iff_true, iff_false, and_true, true_and, and_false, false_and, reduceIte, ite_true, ite_false, eq_self] at *)) <;> omega) (fun s18 hs18 => ?_)
                    have Fs18 : Fm [208] [0, 2] σ s18 := by rw [hs18]; exact Fm.sy Fs5 rfl
                    refine wa_aload_n (i := 0) rfl rfl ?_
                    refine wa_dup rfl ?_
                    refine wa_geti ck_12 fl_12_485 ly_84 ?_
                    refine wa_rw (nx_gi_sy hs18) ?_
                    refine wa_iconst (v := 1) (by decide) ?_
                    refine wa_iadd ?_
                    refine wa_top (fun v19 hv19 => ?_)
                    have tv19 := i_addT hv19
                    clear hv19
                    refine wa_puti ck_12 fl_12_485 ly_84 (fun s20 hs20 => ?_)
                    have Fs20 : Fm [208] [0, 2] σ s20 := by rw [hs20]; exact Fm.si Fs18 rfl
                    refine wa_iinc (v := (1)) (lv' := fun y21 => [(6, .int y21), (7, .int a4), (0, .ref 84), (1, .int a0), (2, .int a1), (3, .int a2), (4, .int a3), (5, .int a4)]) (by decide) rfl (by decide) (fun _ => rfl) (fun y21 hy21 => ?_)
                    have ty21 := i_addT hy21.symm
                    clear hy21
                    refine wa_goto o_X12_feed_34 (by decide) ?_
                    refine wa_pick [2, 3, 4, 5, 6, 7, 0] rfl ?_
                    exact ih6 _ (by ((try simp only [vp_in_iff, Int32.lt_iff_toInt_lt, Int32.le_iff_toInt_le, ← Int32.toInt_inj, Int32.reduceToInt, n_1, n_2, n_8, Int32.toNatClampNeg, Int64.lt_iff_toInt_lt, Int64.le_iff_toInt_le, ← Int64.toInt_inj, Int64.reduceToInt, Int32.toInt_toInt64, lg_cmp_ge, lg_cmp_le, lg_cmp_gt, lg_cmp_lt, lg_cmp_eq, Bool.false_eq_true, Bool.true_eq_false, reduceCtorEq, false_iff, true_iff, iff_true, iff_false, and_true, true_and, and_false, false_and, reduceIte, ite_true, ite_false, eq_self] at *)) <;> omega) _ _ ⟨Fs20, ((nxk_gi_si hs20 (by decide)).trans ((nx_gi_sy hs18).trans (khi7_0))), (by ((try simp only [vp_in_iff, Int32.lt_iff_toInt_lt, Int32.le_iff_toInt_le, ← Int32.toInt_inj, Int32.reduceToInt, n_1, n_2, n_8, Int32.toNatClampNeg, Int64.lt_iff_toInt_lt, Int64.le_iff_toInt_le, ← Int64.toInt_inj, Int64.reduceToInt, Int32.toInt_toInt64, lg_cmp_ge, lg_cmp_le, lg_cmp_gt, lg_cmp_lt, lg_cmp_eq, Bool.false_eq_true, Bool.true_eq_false, reduceCtorEq, false_iff, true_iff, iff_true, iff_false, and_true, true_and, and_false, false_and, reduceIte, ite_true, ite_false, eq_self] at *)) <;> omega), (by rw [nxe_gi_si hs20]; first | assumption | (((try simp only [vp_in_iff, Int32.lt_iff_toInt_lt, Int32.le_iff_toInt_le, ← Int32.toInt_inj, Int32.reduceToInt, n_1, n_2, n_8, Int32.toNatClampNeg, Int64.lt_iff_toInt_lt, Int64.le_iff_toInt_le, ← Int64.toInt_inj, Int64.reduceToInt, Int32.toInt_toInt64, lg_cmp_ge, lg_cmp_le, lg_cmp_gt, lg_cmp_lt, lg_cmp_eq, Bool.false_eq_true, Bool.true_eq_false, reduceCtorEq, false_iff, true_iff, iff_true, iff_false, and_true, true_and, and_false, false_and, reduceIte, ite_true, ite_false, eq_self] at *)) <;> omega)), (by rw [nxe_gi_si hs20]; first | assumption | (((try simp only [vp_in_iff, Int32.lt_iff_toInt_lt, Int32.le_iff_toInt_le, ← Int32.toInt_inj, Int32.reduceToInt, n_1, n_2, n_8, Int32.toNatClampNeg, Int64.lt_iff_toInt_lt, Int64.le_iff_toInt_le, ← Int64.toInt_inj, Int64.reduceToInt, Int32.toInt_toInt64, lg_cmp_ge, lg_cmp_le, lg_cmp_gt, lg_cmp_lt, lg_cmp_eq, Bool.false_eq_true, Bool.true_eq_false, reduceCtorEq, false_iff, true_iff, iff_true, iff_false, and_true, true_and, and_false, false_and, reduceIte, ite_true, ite_false, eq_self] at *)) <;> omega)), trivial⟩ rfl
                  · have mh12 := nle_mx h12
                    refine wa_iload rfl ?_
                    refine wa_goto o_X12_feed_87 (by decide) ?_
                    refine wa_istoreD (lv' := [(7, .int a3), (0, .ref 84), (1, .int a0), (2, .int a1), (3, .int a2), (4, .int a3), (5, .int a4), (6, .int l6)]) (by decide) rfl ?_
                    refine wa_aload_n (i := 0) rfl rfl ?_
                    refine wa_getr ck_12 fl_12_15 ly_84 rf_84_1 ?_
                    refine wa_aload_n (i := 0) rfl rfl ?_
                    refine wa_geti ck_12 fl_12_485 ly_84 ?_
                    refine wa_iload rfl ?_
                    refine wa_bipush (v := 24) (by decide) ?_
                    refine wa_bipush (v := 8) (by decide) ?_
                    refine wa_iload rfl ?_
                    refine wa_iconst (v := 4) (by decide) ?_
                    refine wa_irem (by ((try simp only [vp_in_iff, Int32.lt_iff_toInt_lt, Int32.le_iff_toInt_le, ← Int32.toInt_inj, Int32.reduceToInt, n_1, n_2, n_8, Int32.toNatClampNeg, Int64.lt_iff_toInt_lt, Int64.le_iff_toInt_le, ← Int64.toInt_inj, Int64.reduceToInt, Int32.toInt_toInt64, lg_cmp_ge, lg_cmp_le, lg_cmp_gt, lg_cmp_lt, lg_cmp_eq, Bool.false_eq_true, Bool.true_eq_false, reduceCtorEq, false_iff, true_iff, iff_true, iff_false, and_true, true_and, and_false, false_and, reduceIte, ite_true, ite_false, eq_self] at *)) <;> omega) ?_
                    refine wa_top (fun v22 hv22 => ?_)
                    have tv22 := i_remU hv22
                    clear hv22
                    refine wa_imul ?_
                    refine wa_top (fun v23 hv23 => ?_)
                    have tv23 := i_mulT hv23
                    clear hv23
                    refine wa_isub ?_
                    refine wa_top (fun v24 hv24 => ?_)
                    have tv24 := i_subT hv24
                    clear hv24
                    refine wa_ishr ?_
                    refine wa_top (fun v25 hv25 => ?_)
                    clear hv25
                    refine wa_i2b ?_
                    refine wa_top (fun v26 hv26 => ?_)
                    clear hv26
                    refine wa_bast ly_208 (by ((try simp only [vp_in_iff, Int32.lt_iff_toInt_lt, Int32.le_iff_toInt_le, ← Int32.toInt_inj, Int32.reduceToInt, n_1, n_2, n_8, Int32.toNatClampNeg, Int64.lt_iff_toInt_lt, Int64.le_iff_toInt_le, ← Int64.toInt_inj, Int64.reduceToInt, Int32.toInt_toInt64, lg_cmp_ge, lg_cmp_le, lg_cmp_gt, lg_cmp_lt, lg_cmp_eq, Bool.false_eq_true, Bool.true_eq_false, reduceCtorEq, false_iff, true_iff, iff_true, iff_false, and_true, true_and, and_false, false_and, reduceIte, ite_true, ite_false, eq_self] at *)) <;> omega) (fun s27 hs27 => ?_)
                    have Fs27 : Fm [208] [0, 2] σ s27 := by rw [hs27]; exact Fm.sy Fs5 rfl
                    refine wa_aload_n (i := 0) rfl rfl ?_
                    refine wa_dup rfl ?_
                    refine wa_geti ck_12 fl_12_485 ly_84 ?_
                    refine wa_rw (nx_gi_sy hs27) ?_
                    refine wa_iconst (v := 1) (by decide) ?_
                    refine wa_iadd ?_
                    refine wa_top (fun v28 hv28 => ?_)
                    have tv28 := i_addT hv28
                    clear hv28
                    refine wa_puti ck_12 fl_12_485 ly_84 (fun s29 hs29 => ?_)
                    have Fs29 : Fm [208] [0, 2] σ s29 := by rw [hs29]; exact Fm.si Fs27 rfl
                    refine wa_iinc (v := (1)) (lv' := fun y30 => [(6, .int y30), (7, .int a3), (0, .ref 84), (1, .int a0), (2, .int a1), (3, .int a2), (4, .int a3), (5, .int a4)]) (by decide) rfl (by decide) (fun _ => rfl) (fun y30 hy30 => ?_)
                    have ty30 := i_addT hy30.symm
                    clear hy30
                    refine wa_goto o_X12_feed_34 (by decide) ?_
                    refine wa_pick [2, 3, 4, 5, 6, 7, 0] rfl ?_
                    exact ih6 _ (by ((try simp only [vp_in_iff, Int32.lt_iff_toInt_lt, Int32.le_iff_toInt_le, ← Int32.toInt_inj, Int32.reduceToInt, n_1, n_2, n_8, Int32.toNatClampNeg, Int64.lt_iff_toInt_lt, Int64.le_iff_toInt_le, ← Int64.toInt_inj, Int64.reduceToInt, Int32.toInt_toInt64, lg_cmp_ge, lg_cmp_le, lg_cmp_gt, lg_cmp_lt, lg_cmp_eq, Bool.false_eq_true, Bool.true_eq_false, reduceCtorEq, false_iff, true_iff, iff_true, iff_false, and_true, true_and, and_false, false_and, reduceIte, ite_true, ite_false, eq_self] at *)) <;> omega) _ _ ⟨Fs29, ((nxk_gi_si hs29 (by decide)).trans ((nx_gi_sy hs27).trans (khi7_0))), (by ((try simp only [vp_in_iff, Int32.lt_iff_toInt_lt, Int32.le_iff_toInt_le, ← Int32.toInt_inj, Int32.reduceToInt, n_1, n_2, n_8, Int32.toNatClampNeg, Int64.lt_iff_toInt_lt, Int64.le_iff_toInt_le, ← Int64.toInt_inj, Int64.reduceToInt, Int32.toInt_toInt64, lg_cmp_ge, lg_cmp_le, lg_cmp_gt, lg_cmp_lt, lg_cmp_eq, Bool.false_eq_true, Bool.true_eq_false, reduceCtorEq, false_iff, true_iff, iff_true, iff_false, and_true, true_and, and_false, false_and, reduceIte, ite_true, ite_false, eq_self] at *)) <;> omega), (by rw [nxe_gi_si hs29]; first | assumption | (((try simp only [vp_in_iff, Int32.lt_iff_toInt_lt, Int32.le_iff_toInt_le, ← Int32.toInt_inj, Int32.reduceToInt, n_1, n_2, n_8, Int32.toNatClampNeg, Int64.lt_iff_toInt_lt, Int64.le_iff_toInt_le, ← Int64.toInt_inj, Int64.reduceToInt, Int32.toInt_toInt64, lg_cmp_ge, lg_cmp_le, lg_cmp_gt, lg_cmp_lt, lg_cmp_eq, Bool.false_eq_true, Bool.true_eq_false, reduceCtorEq, false_iff, true_iff, iff_true, iff_false, and_true, true_and, and_false, false_and, reduceIte, ite_true, ite_false, eq_self] at *)) <;> omega)), (by rw [nxe_gi_si hs29]; first | assumption | (((try simp only [vp_in_iff, Int32.lt_iff_toInt_lt, Int32.le_iff_toInt_le, ← Int32.toInt_inj, Int32.reduceToInt, n_1, n_2, n_8, Int32.toNatClampNeg, Int64.lt_iff_toInt_lt, Int64.le_iff_toInt_le, ← Int64.toInt_inj, Int64.reduceToInt, Int32.toInt_toInt64, lg_cmp_ge, lg_cmp_le, lg_cmp_gt, lg_cmp_lt, lg_cmp_eq, Bool.false_eq_true, Bool.true_eq_false, reduceCtorEq, false_iff, true_iff, iff_true, iff_false, and_true, true_and, and_false, false_and, reduceIte, ite_true, ite_false, eq_self] at *)) <;> omega)), trivial⟩ rfl
                · have mh11 := nle_mx h11
                  refine wa_iload_n (i := 3) rfl rfl ?_
                  refine wa_goto o_X12_feed_87 (by decide) ?_
                  refine wa_istoreD (lv' := [(7, .int a2), (0, .ref 84), (1, .int a0), (2, .int a1), (3, .int a2), (4, .int a3), (5, .int a4), (6, .int l6)]) (by decide) rfl ?_
                  refine wa_aload_n (i := 0) rfl rfl ?_
                  refine wa_getr ck_12 fl_12_15 ly_84 rf_84_1 ?_
                  refine wa_aload_n (i := 0) rfl rfl ?_
                  refine wa_geti ck_12 fl_12_485 ly_84 ?_
                  refine wa_iload rfl ?_
                  refine wa_bipush (v := 24) (by decide) ?_
                  refine wa_bipush (v := 8) (by decide) ?_
                  refine wa_iload rfl ?_
                  refine wa_iconst (v := 4) (by decide) ?_
                  refine wa_irem (by ((try simp only [vp_in_iff, Int32.lt_iff_toInt_lt, Int32.le_iff_toInt_le, ← Int32.toInt_inj, Int32.reduceToInt, n_1, n_2, n_8, Int32.toNatClampNeg, Int64.lt_iff_toInt_lt, Int64.le_iff_toInt_le, ← Int64.toInt_inj, Int64.reduceToInt, Int32.toInt_toInt64, lg_cmp_ge, lg_cmp_le, lg_cmp_gt, lg_cmp_lt, lg_cmp_eq, Bool.false_eq_true, Bool.true_eq_false, reduceCtorEq, false_iff, true_iff, iff_true, iff_false, and_true, true_and, and_false, false_and, reduceIte, ite_true, ite_false, eq_self] at *)) <;> omega) ?_
                  refine wa_top (fun v31 hv31 => ?_)
                  have tv31 := i_remU hv31
                  clear hv31
                  refine wa_imul ?_
                  refine wa_top (fun v32 hv32 => ?_)
                  have tv32 := i_mulT hv32
                  clear hv32
                  refine wa_isub ?_
                  refine wa_top (fun v33 hv33 => ?_)
                  have tv33 := i_subT hv33
                  clear hv33
                  refine wa_ishr ?_
                  refine wa_top (fun v34 hv34 => ?_)
                  clear hv34
                  refine wa_i2b ?_
                  refine wa_top (fun v35 hv35 => ?_)
                  clear hv35
                  refine wa_bast ly_208 (by ((try simp only [vp_in_iff, Int32.lt_iff_toInt_lt, Int32.le_iff_toInt_le, ← Int32.toInt_inj, Int32.reduceToInt, n_1, n_2, n_8, Int32.toNatClampNeg, Int64.lt_iff_toInt_lt, Int64.le_iff_toInt_le, ← Int64.toInt_inj, Int64.reduceToInt, Int32.toInt_toInt64, lg_cmp_ge, lg_cmp_le, lg_cmp_gt, lg_cmp_lt, lg_cmp_eq, Bool.false_eq_true, Bool.true_eq_false, reduceCtorEq, false_iff, true_iff, iff_true, iff_false, and_true, true_and, and_false, false_and, reduceIte, ite_true, ite_false, eq_self] at *)) <;> omega) (fun s36 hs36 => ?_)
                  have Fs36 : Fm [208] [0, 2] σ s36 := by rw [hs36]; exact Fm.sy Fs5 rfl
                  refine wa_aload_n (i := 0) rfl rfl ?_
                  refine wa_dup rfl ?_
                  refine wa_geti ck_12 fl_12_485 ly_84 ?_
                  refine wa_rw (nx_gi_sy hs36) ?_
                  refine wa_iconst (v := 1) (by decide) ?_
                  refine wa_iadd ?_
                  refine wa_top (fun v37 hv37 => ?_)
                  have tv37 := i_addT hv37
                  clear hv37
                  refine wa_puti ck_12 fl_12_485 ly_84 (fun s38 hs38 => ?_)
                  have Fs38 : Fm [208] [0, 2] σ s38 := by rw [hs38]; exact Fm.si Fs36 rfl
                  refine wa_iinc (v := (1)) (lv' := fun y39 => [(6, .int y39), (7, .int a2), (0, .ref 84), (1, .int a0), (2, .int a1), (3, .int a2), (4, .int a3), (5, .int a4)]) (by decide) rfl (by decide) (fun _ => rfl) (fun y39 hy39 => ?_)
                  have ty39 := i_addT hy39.symm
                  clear hy39
                  refine wa_goto o_X12_feed_34 (by decide) ?_
                  refine wa_pick [2, 3, 4, 5, 6, 7, 0] rfl ?_
                  exact ih6 _ (by ((try simp only [vp_in_iff, Int32.lt_iff_toInt_lt, Int32.le_iff_toInt_le, ← Int32.toInt_inj, Int32.reduceToInt, n_1, n_2, n_8, Int32.toNatClampNeg, Int64.lt_iff_toInt_lt, Int64.le_iff_toInt_le, ← Int64.toInt_inj, Int64.reduceToInt, Int32.toInt_toInt64, lg_cmp_ge, lg_cmp_le, lg_cmp_gt, lg_cmp_lt, lg_cmp_eq, Bool.false_eq_true, Bool.true_eq_false, reduceCtorEq, false_iff, true_iff, iff_true, iff_false, and_true, true_and, and_false, false_and, reduceIte, ite_true, ite_false, eq_self] at *)) <;> omega) _ _ ⟨Fs38, ((nxk_gi_si hs38 (by decide)).trans ((nx_gi_sy hs36).trans (khi7_0))), (by ((try simp only [vp_in_iff, Int32.lt_iff_toInt_lt, Int32.le_iff_toInt_le, ← Int32.toInt_inj, Int32.reduceToInt, n_1, n_2, n_8, Int32.toNatClampNeg, Int64.lt_iff_toInt_lt, Int64.le_iff_toInt_le, ← Int64.toInt_inj, Int64.reduceToInt, Int32.toInt_toInt64, lg_cmp_ge, lg_cmp_le, lg_cmp_gt, lg_cmp_lt, lg_cmp_eq, Bool.false_eq_true, Bool.true_eq_false, reduceCtorEq, false_iff, true_iff, iff_true, iff_false, and_true, true_and, and_false, false_and, reduceIte, ite_true, ite_false, eq_self] at *)) <;> omega), (by rw [nxe_gi_si hs38]; first | assumption | (((try simp only [vp_in_iff, Int32.lt_iff_toInt_lt, Int32.le_iff_toInt_le, ← Int32.toInt_inj, Int32.reduceToInt, n_1, n_2, n_8, Int32.toNatClampNeg, Int64.lt_iff_toInt_lt, Int64.le_iff_toInt_le, ← Int64.toInt_inj, Int64.reduceToInt, Int32.toInt_toInt64, lg_cmp_ge, lg_cmp_le, lg_cmp_gt, lg_cmp_lt, lg_cmp_eq, Bool.false_eq_true, Bool.true_eq_false, reduceCtorEq, false_iff, true_iff, iff_true, iff_false, and_true, true_and, and_false, false_and, reduceIte, ite_true, ite_false, eq_self] at *)) <;> omega)), (by rw [nxe_gi_si hs38]; first | assumption | (((try simp only [vp_in_iff, Int32.lt_iff_toInt_lt, Int32.le_iff_toInt_le, ← Int32.toInt_inj, Int32.reduceToInt, n_1, n_2, n_8, Int32.toNatClampNeg, Int64.lt_iff_toInt_lt, Int64.le_iff_toInt_le, ← Int64.toInt_inj, Int64.reduceToInt, Int32.toInt_toInt64, lg_cmp_ge, lg_cmp_le, lg_cmp_gt, lg_cmp_lt, lg_cmp_eq, Bool.false_eq_true, Bool.true_eq_false, reduceCtorEq, false_iff, true_iff, iff_true, iff_false, and_true, true_and, and_false, false_and, reduceIte, ite_true, ite_false, eq_self] at *)) <;> omega)), trivial⟩ rfl
              · have mh10 := nle_mx h10
                refine wa_iload_n (i := 2) rfl rfl ?_
                refine wa_goto o_X12_feed_87 (by decide) ?_
                refine wa_istoreD (lv' := [(7, .int a1), (0, .ref 84), (1, .int a0), (2, .int a1), (3, .int a2), (4, .int a3), (5, .int a4), (6, .int l6)]) (by decide) rfl ?_
                refine wa_aload_n (i := 0) rfl rfl ?_
                refine wa_getr ck_12 fl_12_15 ly_84 rf_84_1 ?_
                refine wa_aload_n (i := 0) rfl rfl ?_
                refine wa_geti ck_12 fl_12_485 ly_84 ?_
                refine wa_iload rfl ?_
                refine wa_bipush (v := 24) (by decide) ?_
                refine wa_bipush (v := 8) (by decide) ?_
                refine wa_iload rfl ?_
                refine wa_iconst (v := 4) (by decide) ?_
                refine wa_irem (by ((try simp only [vp_in_iff, Int32.lt_iff_toInt_lt, Int32.le_iff_toInt_le, ← Int32.toInt_inj, Int32.reduceToInt, n_1, n_2, n_8, Int32.toNatClampNeg, Int64.lt_iff_toInt_lt, Int64.le_iff_toInt_le, ← Int64.toInt_inj, Int64.reduceToInt, Int32.toInt_toInt64, lg_cmp_ge, lg_cmp_le, lg_cmp_gt, lg_cmp_lt, lg_cmp_eq, Bool.false_eq_true, Bool.true_eq_false, reduceCtorEq, false_iff, true_iff, iff_true, iff_false, and_true, true_and, and_false, false_and, reduceIte, ite_true, ite_false, eq_self] at *)) <;> omega) ?_
                refine wa_top (fun v40 hv40 => ?_)
                have tv40 := i_remU hv40
                clear hv40
                refine wa_imul ?_
                refine wa_top (fun v41 hv41 => ?_)
                have tv41 := i_mulT hv41
                clear hv41
                refine wa_isub ?_
                refine wa_top (fun v42 hv42 => ?_)
                have tv42 := i_subT hv42
                clear hv42
                refine wa_ishr ?_
                refine wa_top (fun v43 hv43 => ?_)
                clear hv43
                refine wa_i2b ?_
                refine wa_top (fun v44 hv44 => ?_)
                clear hv44
                refine wa_bast ly_208 (by ((try simp only [vp_in_iff, Int32.lt_iff_toInt_lt, Int32.le_iff_toInt_le, ← Int32.toInt_inj, Int32.reduceToInt, n_1, n_2, n_8, Int32.toNatClampNeg, Int64.lt_iff_toInt_lt, Int64.le_iff_toInt_le, ← Int64.toInt_inj, Int64.reduceToInt, Int32.toInt_toInt64, lg_cmp_ge, lg_cmp_le, lg_cmp_gt, lg_cmp_lt, lg_cmp_eq, Bool.false_eq_true, Bool.true_eq_false, reduceCtorEq, false_iff, true_iff, iff_true, iff_false, and_true, true_and, and_false, false_and, reduceIte, ite_true, ite_false, eq_self] at *)) <;> omega) (fun s45 hs45 => ?_)
                have Fs45 : Fm [208] [0, 2] σ s45 := by rw [hs45]; exact Fm.sy Fs5 rfl
                refine wa_aload_n (i := 0) rfl rfl ?_
                refine wa_dup rfl ?_
                refine wa_geti ck_12 fl_12_485 ly_84 ?_
                refine wa_rw (nx_gi_sy hs45) ?_
                refine wa_iconst (v := 1) (by decide) ?_
                refine wa_iadd ?_
                refine wa_top (fun v46 hv46 => ?_)
                have tv46 := i_addT hv46
                clear hv46
                refine wa_puti ck_12 fl_12_485 ly_84 (fun s47 hs47 => ?_)
                have Fs47 : Fm [208] [0, 2] σ s47 := by rw [hs47]; exact Fm.si Fs45 rfl
                refine wa_iinc (v := (1)) (lv' := fun y48 => [(6, .int y48), (7, .int a1), (0, .ref 84), (1, .int a0), (2, .int a1), (3, .int a2), (4, .int a3), (5, .int a4)]) (by decide) rfl (by decide) (fun _ => rfl) (fun y48 hy48 => ?_)
                have ty48 := i_addT hy48.symm
                clear hy48
                refine wa_goto o_X12_feed_34 (by decide) ?_
                refine wa_pick [2, 3, 4, 5, 6, 7, 0] rfl ?_
                exact ih6 _ (by ((try simp only [vp_in_iff, Int32.lt_iff_toInt_lt, Int32.le_iff_toInt_le, ← Int32.toInt_inj, Int32.reduceToInt, n_1, n_2, n_8, Int32.toNatClampNeg, Int64.lt_iff_toInt_lt, Int64.le_iff_toInt_le, ← Int64.toInt_inj, Int64.reduceToInt, Int32.toInt_toInt64, lg_cmp_ge, lg_cmp_le, lg_cmp_gt, lg_cmp_lt, lg_cmp_eq, Bool.false_eq_true, Bool.true_eq_false, reduceCtorEq, false_iff, true_iff, iff_true, iff_false, and_true, true_and, and_false, false_and, reduceIte, ite_true, ite_false, eq_self] at *)) <;> omega) _ _ ⟨Fs47, ((nxk_gi_si hs47 (by decide)).trans ((nx_gi_sy hs45).trans (khi7_0))), (by ((try simp only [vp_in_iff, Int32.lt_iff_toInt_lt, Int32.le_iff_toInt_le, ← Int32.toInt_inj, Int32.reduceToInt, n_1, n_2, n_8, Int32.toNatClampNeg, Int64.lt_iff_toInt_lt, Int64.le_iff_toInt_le, ← Int64.toInt_inj, Int64.reduceToInt, Int32.toInt_toInt64, lg_cmp_ge, lg_cmp_le, lg_cmp_gt, lg_cmp_lt, lg_cmp_eq, Bool.false_eq_true, Bool.true_eq_false, reduceCtorEq, false_iff, true_iff, iff_true, iff_false, and_true, true_and, and_false, false_and, reduceIte, ite_true, ite_false, eq_self] at *)) <;> omega), (by rw [nxe_gi_si hs47]; first | assumption | (((try simp only [vp_in_iff, Int32.lt_iff_toInt_lt, Int32.le_iff_toInt_le, ← Int32.toInt_inj, Int32.reduceToInt, n_1, n_2, n_8, Int32.toNatClampNeg, Int64.lt_iff_toInt_lt, Int64.le_iff_toInt_le, ← Int64.toInt_inj, Int64.reduceToInt, Int32.toInt_toInt64, lg_cmp_ge, lg_cmp_le, lg_cmp_gt, lg_cmp_lt, lg_cmp_eq, Bool.false_eq_true, Bool.true_eq_false, reduceCtorEq, false_iff, true_iff, iff_true, iff_false, and_true, true_and, and_false, false_and, reduceIte, ite_true, ite_false, eq_self] at *)) <;> omega)), (by rw [nxe_gi_si hs47]; first | assumption | (((try simp only [vp_in_iff, Int32.lt_iff_toInt_lt, Int32.le_iff_toInt_le, ← Int32.toInt_inj, Int32.reduceToInt, n_1, n_2, n_8, Int32.toNatClampNeg, Int64.lt_iff_toInt_lt, Int64.le_iff_toInt_le, ← Int64.toInt_inj, Int64.reduceToInt, Int32.toInt_toInt64, lg_cmp_ge, lg_cmp_le, lg_cmp_gt, lg_cmp_lt, lg_cmp_eq, Bool.false_eq_true, Bool.true_eq_false, reduceCtorEq, false_iff, true_iff, iff_true, iff_false, and_true, true_and, and_false, false_and, reduceIte, ite_true, ite_false, eq_self] at *)) <;> omega)), trivial⟩ rfl
            · have mh9 := nle_mx h9
              refine wa_iload_n (i := 1) rfl rfl ?_
              refine wa_goto o_X12_feed_87 (by decide) ?_
              refine wa_istoreD (lv' := [(7, .int a0), (0, .ref 84), (1, .int a0), (2, .int a1), (3, .int a2), (4, .int a3), (5, .int a4), (6, .int l6)]) (by decide) rfl ?_
              refine wa_aload_n (i := 0) rfl rfl ?_
              refine wa_getr ck_12 fl_12_15 ly_84 rf_84_1 ?_
              refine wa_aload_n (i := 0) rfl rfl ?_
              refine wa_geti ck_12 fl_12_485 ly_84 ?_
              refine wa_iload rfl ?_
              refine wa_bipush (v := 24) (by decide) ?_
              refine wa_bipush (v := 8) (by decide) ?_
              refine wa_iload rfl ?_
              refine wa_iconst (v := 4) (by decide) ?_
              refine wa_irem (by ((try simp only [vp_in_iff, Int32.lt_iff_toInt_lt, Int32.le_iff_toInt_le, ← Int32.toInt_inj, Int32.reduceToInt, n_1, n_2, n_8, Int32.toNatClampNeg, Int64.lt_iff_toInt_lt, Int64.le_iff_toInt_le, ← Int64.toInt_inj, Int64.reduceToInt, Int32.toInt_toInt64, lg_cmp_ge, lg_cmp_le, lg_cmp_gt, lg_cmp_lt, lg_cmp_eq, Bool.false_eq_true, Bool.true_eq_false, reduceCtorEq, false_iff, true_iff, iff_true, iff_false, and_true, true_and, and_false, false_and, reduceIte, ite_true, ite_false, eq_self] at *)) <;> omega) ?_
              refine wa_top (fun v49 hv49 => ?_)
              have tv49 := i_remU hv49
              clear hv49
              refine wa_imul ?_
              refine wa_top (fun v50 hv50 => ?_)
              have tv50 := i_mulT hv50
              clear hv50
              refine wa_isub ?_
              refine wa_top (fun v51 hv51 => ?_)
              have tv51 := i_subT hv51
              clear hv51
              refine wa_ishr ?_
              refine wa_top (fun v52 hv52 => ?_)
              clear hv52
              refine wa_i2b ?_
              refine wa_top (fun v53 hv53 => ?_)
              clear hv53
              refine wa_bast ly_208 (by ((try simp only [vp_in_iff, Int32.lt_iff_toInt_lt, Int32.le_iff_toInt_le, ← Int32.toInt_inj, Int32.reduceToInt, n_1, n_2, n_8, Int32.toNatClampNeg, Int64.lt_iff_toInt_lt, Int64.le_iff_toInt_le, ← Int64.toInt_inj, Int64.reduceToInt, Int32.toInt_toInt64, lg_cmp_ge, lg_cmp_le, lg_cmp_gt, lg_cmp_lt, lg_cmp_eq, Bool.false_eq_true, Bool.true_eq_false, reduceCtorEq, false_iff, true_iff, iff_true, iff_false, and_true, true_and, and_false, false_and, reduceIte, ite_true, ite_false, eq_self] at *)) <;> omega) (fun s54 hs54 => ?_)
              have Fs54 : Fm [208] [0, 2] σ s54 := by rw [hs54]; exact Fm.sy Fs5 rfl
              refine wa_aload_n (i := 0) rfl rfl ?_
              refine wa_dup rfl ?_
              refine wa_geti ck_12 fl_12_485 ly_84 ?_
              refine wa_rw (nx_gi_sy hs54) ?_
              refine wa_iconst (v := 1) (by decide) ?_
              refine wa_iadd ?_
              refine wa_top (fun v55 hv55 => ?_)
              have tv55 := i_addT hv55
              clear hv55
              refine wa_puti ck_12 fl_12_485 ly_84 (fun s56 hs56 => ?_)
              have Fs56 : Fm [208] [0, 2] σ s56 := by rw [hs56]; exact Fm.si Fs54 rfl
              refine wa_iinc (v := (1)) (lv' := fun y57 => [(6, .int y57), (7, .int a0), (0, .ref 84), (1, .int a0), (2, .int a1), (3, .int a2), (4, .int a3), (5, .int a4)]) (by decide) rfl (by decide) (fun _ => rfl) (fun y57 hy57 => ?_)
              have ty57 := i_addT hy57.symm
              clear hy57
              refine wa_goto o_X12_feed_34 (by decide) ?_
              refine wa_pick [2, 3, 4, 5, 6, 7, 0] rfl ?_
              exact ih6 _ (by ((try simp only [vp_in_iff, Int32.lt_iff_toInt_lt, Int32.le_iff_toInt_le, ← Int32.toInt_inj, Int32.reduceToInt, n_1, n_2, n_8, Int32.toNatClampNeg, Int64.lt_iff_toInt_lt, Int64.le_iff_toInt_le, ← Int64.toInt_inj, Int64.reduceToInt, Int32.toInt_toInt64, lg_cmp_ge, lg_cmp_le, lg_cmp_gt, lg_cmp_lt, lg_cmp_eq, Bool.false_eq_true, Bool.true_eq_false, reduceCtorEq, false_iff, true_iff, iff_true, iff_false, and_true, true_and, and_false, false_and, reduceIte, ite_true, ite_false, eq_self] at *)) <;> omega) _ _ ⟨Fs56, ((nxk_gi_si hs56 (by decide)).trans ((nx_gi_sy hs54).trans (khi7_0))), (by ((try simp only [vp_in_iff, Int32.lt_iff_toInt_lt, Int32.le_iff_toInt_le, ← Int32.toInt_inj, Int32.reduceToInt, n_1, n_2, n_8, Int32.toNatClampNeg, Int64.lt_iff_toInt_lt, Int64.le_iff_toInt_le, ← Int64.toInt_inj, Int64.reduceToInt, Int32.toInt_toInt64, lg_cmp_ge, lg_cmp_le, lg_cmp_gt, lg_cmp_lt, lg_cmp_eq, Bool.false_eq_true, Bool.true_eq_false, reduceCtorEq, false_iff, true_iff, iff_true, iff_false, and_true, true_and, and_false, false_and, reduceIte, ite_true, ite_false, eq_self] at *)) <;> omega), (by rw [nxe_gi_si hs56]; first | assumption | (((try simp only [vp_in_iff, Int32.lt_iff_toInt_lt, Int32.le_iff_toInt_le, ← Int32.toInt_inj, Int32.reduceToInt, n_1, n_2, n_8, Int32.toNatClampNeg, Int64.lt_iff_toInt_lt, Int64.le_iff_toInt_le, ← Int64.toInt_inj, Int64.reduceToInt, Int32.toInt_toInt64, lg_cmp_ge, lg_cmp_le, lg_cmp_gt, lg_cmp_lt, lg_cmp_eq, Bool.false_eq_true, Bool.true_eq_false, reduceCtorEq, false_iff, true_iff, iff_true, iff_false, and_true, true_and, and_false, false_and, reduceIte, ite_true, ite_false, eq_self] at *)) <;> omega)), (by rw [nxe_gi_si hs56]; first | assumption | (((try simp only [vp_in_iff, Int32.lt_iff_toInt_lt, Int32.le_iff_toInt_le, ← Int32.toInt_inj, Int32.reduceToInt, n_1, n_2, n_8, Int32.toNatClampNeg, Int64.lt_iff_toInt_lt, Int64.le_iff_toInt_le, ← Int64.toInt_inj, Int64.reduceToInt, Int32.toInt_toInt64, lg_cmp_ge, lg_cmp_le, lg_cmp_gt, lg_cmp_lt, lg_cmp_eq, Bool.false_eq_true, Bool.true_eq_false, reduceCtorEq, false_iff, true_iff, iff_true, iff_false, and_true, true_and, and_false, false_and, reduceIte, ite_true, ite_false, eq_self] at *)) <;> omega)), trivial⟩ rfl
      exact hi7 _ _ _ ⟨Fs3, (nxe_gi_si hs3), (by ((try simp only [vp_in_iff, Int32.lt_iff_toInt_lt, Int32.le_iff_toInt_le, ← Int32.toInt_inj, Int32.reduceToInt, n_1, n_2, n_8, Int32.toNatClampNeg, Int64.lt_iff_toInt_lt, Int64.le_iff_toInt_le, ← Int64.toInt_inj, Int64.reduceToInt, Int32.toInt_toInt64, lg_cmp_ge, lg_cmp_le, lg_cmp_gt, lg_cmp_lt, lg_cmp_eq, Bool.false_eq_true, Bool.true_eq_false, reduceCtorEq, false_iff, true_iff, iff_true, iff_false, and_true, true_and, and_false, false_and, reduceIte, ite_true, ite_false, eq_self] at *)) <;> omega), (by rw [nxk_gi_si hs3 (by decide)]; first | assumption | (((try simp only [vp_in_iff, Int32.lt_iff_toInt_lt, Int32.le_iff_toInt_le, ← Int32.toInt_inj, Int32.reduceToInt, n_1, n_2, n_8, Int32.toNatClampNeg, Int64.lt_iff_toInt_lt, Int64.le_iff_toInt_le, ← Int64.toInt_inj, Int64.reduceToInt, Int32.toInt_toInt64, lg_cmp_ge, lg_cmp_le, lg_cmp_gt, lg_cmp_lt, lg_cmp_eq, Bool.false_eq_true, Bool.true_eq_false, reduceCtorEq, false_iff, true_iff, iff_true, iff_false, and_true, true_and, and_false, false_and, reduceIte, ite_true, ite_false, eq_self] at *)) <;> omega)), (by rw [nxk_gi_si hs3 (by decide)]; first | assumption | (((try simp only [vp_in_iff, Int32.lt_iff_toInt_lt, Int32.le_iff_toInt_le, ← Int32.toInt_inj, Int32.reduceToInt, n_1, n_2, n_8, Int32.toNatClampNeg, Int64.lt_iff_toInt_lt, Int64.le_iff_toInt_le, ← Int64.toInt_inj, Int64.reduceToInt, Int32.toInt_toInt64, lg_cmp_ge, lg_cmp_le, lg_cmp_gt, lg_cmp_lt, lg_cmp_eq, Bool.false_eq_true, Bool.true_eq_false, reduceCtorEq, false_iff, true_iff, iff_true, iff_false, and_true, true_and, and_false, false_and, reduceIte, ite_true, ite_false, eq_self] at *)) <;> omega)), trivial⟩ rfl
    · refine wa_iconst (v := 0) (by decide) ?_
      refine wa_ireturn rfl rfl ?_
      exact ⟨_, rfl, Fs3, (by rw [nxk_gi_si hs3 (by decide)]; first | assumption | (((try simp only [vp_in_iff, Int32.lt_iff_toInt_lt, Int32.le_iff_toInt_le, ← Int32.toInt_inj, Int32.reduceToInt, n_1, n_2, n_8, Int32.toNatClampNeg, Int64.lt_iff_toInt_lt, Int64.le_iff_toInt_le, ← Int64.toInt_inj, Int64.reduceToInt, Int32.toInt_toInt64, lg_cmp_ge, lg_cmp_le, lg_cmp_gt, lg_cmp_lt, lg_cmp_eq, Bool.false_eq_true, Bool.true_eq_false, reduceCtorEq, false_iff, true_iff, iff_true, iff_false, and_true, true_and, and_false, false_and, reduceIte, ite_true, ite_false, eq_self] at *)) <;> omega)), trivial⟩
  · refine wa_iconst (v := 1) (by decide) ?_
    refine wa_goto o_X12_feed_19 (by decide) ?_
    refine wa_puti ck_12 fl_12_3 ly_84 (fun s58 hs58 => ?_)
    have Fs58 : Fm [208] [0, 2] σ s58 := by rw [hs58]; exact Fm.si (Fm.rf [208] [0, 2] σ) rfl
    refine wa_aload_n (i := 0) rfl rfl ?_
    refine wa_geti ck_12 fl_12_3 ly_84 ?_
    refine wa_rw (nxe_gi_si hs58) ?_
    refine wa_if_le o_X12_feed_31 (by decide) (fun h59 => ?_) (fun h59 => ?_)
    · refine wa_iconst (v := 0) (by decide) ?_
      refine wa_istoreD (lv' := [(6, .int 0), (0, .ref 84), (1, .int a0), (2, .int a1), (3, .int a2), (4, .int a3), (5, .int a4)]) (by decide) rfl ?_
      refine wa_pick [1, 2, 3, 4, 5, 6, 0] rfl ?_
      have hi62 : ∀ (n9_34 : Nat) (l6 : Int32) (s60 : St), ((Fm [208] [0, 2] σ s60) ∧ (gi s60 84 0 = (1 : Int32)) ∧ (0 ≤ l6.toInt) ∧ ((gi s60 84 2).toInt ≤ 1980 + l6.toInt) ∧ (0 ≤ (gi s60 84 2).toInt ∧ (gi s60 84 2).toInt ≤ 2000) ∧ (True)) → (2147483647 - l6.toInt).toNat = n9_34 → WA G M_X12_feed (ZM G M_X12_feed d (fun r σ' => ∃ x : Int32, r = some (.int x) ∧ Fm [208] [0, 2] σ σ' ∧ (0 ≤ (gi σ' 84 2).toInt ∧ (gi σ' 84 2).toInt ≤ 2000) ∧ True)) B_X12_feed_34 [(0, .ref 84), (1, .int a0), (2, .int a1), (3, .int a2), (4, .int a3), (5, .int a4), (6, .int l6)] [] s60 := by
        intro n9_34
        induction n9_34 using Nat.strongRecOn with
        | _ n9_34 ih61 =>
          intro l6 s60 i9 m9_34
          obtain ⟨Fs60, khi62_0, jhi62_0, jhi62_1, jhi62_2, -⟩ := i9
          have ul6 := Int32.toInt_lt l6
          have wl6 := Int32.le_toInt l6
          refine wa_iload rfl ?_
          refine wa_bipush (v := 20) (by decide) ?_
          refine wa_icmp_ge o_X12_feed_128 (by decide) (fun h63 => ?_) (fun h63 => ?_)
          · refine wa_aload_n (i := 0) rfl rfl ?_
            refine wa_geti ck_12 fl_12_485 ly_84 ?_
            refine wa_ireturn rfl rfl ?_
            exact ⟨_, rfl, Fs60, (by first | assumption | (((try simp only [vp_in_iff, Int32.lt_iff_toInt_lt, Int32.le_iff_toInt_le, ← Int32.toInt_inj, Int32.reduceToInt, n_1, n_2, n_8, Int32.toNatClampNeg, Int64.lt_iff_toInt_lt, Int64.le_iff_toInt_le, ← Int64.toInt_inj, Int64.reduceToInt, Int32.toInt_toInt64, lg_cmp_ge, lg_cmp_le, lg_cmp_gt, lg_cmp_lt, lg_cmp_eq, Bool.false_eq_true, Bool.true_eq_false, reduceCtorEq, false_iff, true_iff, iff_true, iff_false, and_true, true_and, and_false, false_and, reduceIte, ite_true, ite_false, eq_self] at *)) <;> omega)), trivial⟩
          · have mh63 := nle_mx h63
            refine wa_iload rfl ?_
            refine wa_iconst (v := 4) (by decide) ?_
            refine wa_icmp_ge o_X12_feed_51 (by decide) (fun h64 => ?_) (fun h64 => ?_)
            · refine wa_iload rfl ?_
              refine wa_bipush (v := 8) (by decide) ?_
              refine wa_icmp_ge o_X12_feed_62 (by decide) (fun h65 => ?_) (fun h65 => ?_)
              · refine wa_iload rfl ?_
                refine wa_bipush (v := 12) (by decide) ?_
                refine wa_icmp_ge o_X12_feed_73 (by decide) (fun h66 => ?_) (fun h66 => ?_)
                · refine wa_iload rfl ?_
                  refine wa_bipush (v := 16) (by decide) ?_
                  refine wa_icmp_ge o_X12_feed_85 (by decide) (fun h67 => ?_) (fun h67 => ?_)
                  · refine wa_iload rfl ?_
                    refine wa_istoreD (lv' := [(7, .int a4), (0, .ref 84), (1, .int a0), (2, .int a1), (3, .int a2), (4, .int a3), (5, .int a4), (6, .int l6)]) (by decide) rfl ?_
                    refine wa_aload_n (i := 0) rfl rfl ?_
                    refine wa_getr ck_12 fl_12_15 ly_84 rf_84_1 ?_
                    refine wa_aload_n (i := 0) rfl rfl ?_
                    refine wa_geti ck_12 fl_12_485 ly_84 ?_
                    refine wa_iload rfl ?_
                    refine wa_bipush (v := 24) (by decide) ?_
                    refine wa_bipush (v := 8) (by decide) ?_
                    refine wa_iload rfl ?_
                    refine wa_iconst (v := 4) (by decide) ?_
                    refine wa_irem (by ((try simp only [vp_in_iff, Int32.lt_iff_toInt_lt, Int32.le_iff_toInt_le, ← Int32.toInt_inj, Int32.reduceToInt, n_1, n_2, n_8, Int32.toNatClampNeg, Int64.lt_iff_toInt_lt, Int64.le_iff_toInt_le, ← Int64.toInt_inj, Int64.reduceToInt, Int32.toInt_toInt64, lg_cmp_ge, lg_cmp_le, lg_cmp_gt, lg_cmp_lt, lg_cmp_eq, Bool.false_eq_true, Bool.true_eq_false, reduceCtorEq, false_iff, true_iff, iff_true, iff_false, and_true, true_and, and_false, false_and, reduceIte, ite_true, ite_false, eq_self] at *)) <;> omega) ?_
                    refine wa_top (fun v68 hv68 => ?_)
                    have tv68 := i_remU hv68
                    clear hv68
                    refine wa_imul ?_
                    refine wa_top (fun v69 hv69 => ?_)
                    have tv69 := i_mulT hv69
                    clear hv69
                    refine wa_isub ?_
                    refine wa_top (fun v70 hv70 => ?_)
                    have tv70 := i_subT hv70
                    clear hv70
                    refine wa_ishr ?_
                    refine wa_top (fun v71 hv71 => ?_)
                    clear hv71
                    refine wa_i2b ?_
                    refine wa_top (fun v72 hv72 => ?_)
                    clear hv72
                    refine wa_bast ly_208 (by ((try simp only [vp_in_iff, Int32.lt_iff_toInt_lt, Int32.le_iff_toInt_le, ← Int32.toInt_inj, Int32.reduceToInt, n_1, n_2, n_8, Int32.toNatClampNeg, Int64.lt_iff_toInt_lt, Int64.le_iff_toInt_le, ← Int64.toInt_inj, Int64.reduceToInt, Int32.toInt_toInt64, lg_cmp_ge, lg_cmp_le, lg_cmp_gt, lg_cmp_lt, lg_cmp_eq, Bool.false_eq_true, Bool.true_eq_false, reduceCtorEq, false_iff, true_iff, iff_true, iff_false, and_true, true_and, and_false, false_and, reduceIte, ite_true, ite_false, eq_self] at *)) <;> omega) (fun s73 hs73 => ?_)
                    have Fs73 : Fm [208] [0, 2] σ s73 := by rw [hs73]; exact Fm.sy Fs60 rfl
                    refine wa_aload_n (i := 0) rfl rfl ?_
                    refine wa_dup rfl ?_
                    refine wa_geti ck_12 fl_12_485 ly_84 ?_
                    refine wa_rw (nx_gi_sy hs73) ?_
                    refine wa_iconst (v := 1) (by decide) ?_
                    refine wa_iadd ?_
                    refine wa_top (fun v74 hv74 => ?_)
                    have tv74 := i_addT hv74
                    clear hv74
                    refine wa_puti ck_12 fl_12_485 ly_84 (fun s75 hs75 => ?_)
                    have Fs75 : Fm [208] [0, 2] σ s75 := by rw [hs75]; exact Fm.si Fs73 rfl
                    refine wa_iinc (v := (1)) (lv' := fun y76 => [(6, .int y76), (7, .int a4), (0, .ref 84), (1, .int a0), (2, .int a1), (3, .int a2), (4, .int a3), (5, .int a4)]) (by decide) rfl (by decide) (fun _ => rfl) (fun y76 hy76 => ?_)
                    have ty76 := i_addT hy76.symm
                    clear hy76
                    refine wa_goto o_X12_feed_34 (by decide) ?_
                    refine wa_pick [2, 3, 4, 5, 6, 7, 0] rfl ?_
                    exact ih61 _ (by ((try simp only [vp_in_iff, Int32.lt_iff_toInt_lt, Int32.le_iff_toInt_le, ← Int32.toInt_inj, Int32.reduceToInt, n_1, n_2, n_8, Int32.toNatClampNeg, Int64.lt_iff_toInt_lt, Int64.le_iff_toInt_le, ← Int64.toInt_inj, Int64.reduceToInt, Int32.toInt_toInt64, lg_cmp_ge, lg_cmp_le, lg_cmp_gt, lg_cmp_lt, lg_cmp_eq, Bool.false_eq_true, Bool.true_eq_false, reduceCtorEq, false_iff, true_iff, iff_true, iff_false, and_true, true_and, and_false, false_and, reduceIte, ite_true, ite_false, eq_self] at *)) <;> omega) _ _ ⟨Fs75, ((nxk_gi_si hs75 (by decide)).trans ((nx_gi_sy hs73).trans (khi62_0))), (by ((try simp only [vp_in_iff, Int32.lt_iff_toInt_lt, Int32.le_iff_toInt_le, ← Int32.toInt_inj, Int32.reduceToInt, n_1, n_2, n_8, Int32.toNatClampNeg, Int64.lt_iff_toInt_lt, Int64.le_iff_toInt_le, ← Int64.toInt_inj, Int64.reduceToInt, Int32.toInt_toInt64, lg_cmp_ge, lg_cmp_le, lg_cmp_gt, lg_cmp_lt, lg_cmp_eq, Bool.false_eq_true, Bool.true_eq_false, reduceCtorEq, false_iff, true_iff, iff_true, iff_false, and_true, true_and, and_false, false_and, reduceIte, ite_true, ite_false, eq_self] at *)) <;> omega), (by rw [nxe_gi_si hs75]; first | assumption | (((try simp only [vp_in_iff, Int32.lt_iff_toInt_lt, Int32.le_iff_toInt_le, ← Int32.toInt_inj, Int32.reduceToInt, n_1, n_2, n_8, Int32.toNatClampNeg, Int64.lt_iff_toInt_lt, Int64.le_iff_toInt_le, ← Int64.toInt_inj, Int64.reduceToInt, Int32.toInt_toInt64, lg_cmp_ge, lg_cmp_le, lg_cmp_gt, lg_cmp_lt, lg_cmp_eq, Bool.false_eq_true, Bool.true_eq_false, reduceCtorEq, false_iff, true_iff, iff_true, iff_false, and_true, true_and, and_false, false_and, reduceIte, ite_true, ite_false, eq_self] at *)) <;> omega)), (by rw [nxe_gi_si hs75]; first | assumption | (((try simp only [vp_in_iff, Int32.lt_iff_toInt_lt, Int32.le_iff_toInt_le, ← Int32.toInt_inj, Int32.reduceToInt, n_1, n_2, n_8, Int32.toNatClampNeg, Int64.lt_iff_toInt_lt, Int64.le_iff_toInt_le, ← Int64.toInt_inj, Int64.reduceToInt, Int32.toInt_toInt64, lg_cmp_ge, lg_cmp_le, lg_cmp_gt, lg_cmp_lt, lg_cmp_eq, Bool.false_eq_true, Bool.true_eq_false, reduceCtorEq, false_iff, true_iff, iff_true, iff_false, and_true, true_and, and_false, false_and, reduceIte, ite_true, ite_false, eq_self] at *)) <;> omega)), trivial⟩ rfl
                  · have mh67 := nle_mx h67
                    refine wa_iload rfl ?_
                    refine wa_goto o_X12_feed_87 (by decide) ?_
                    refine wa_istoreD (lv' := [(7, .int a3), (0, .ref 84), (1, .int a0), (2, .int a1), (3, .int a2), (4, .int a3), (5, .int a4), (6, .int l6)]) (by decide) rfl ?_
                    refine wa_aload_n (i := 0) rfl rfl ?_
                    refine wa_getr ck_12 fl_12_15 ly_84 rf_84_1 ?_
                    refine wa_aload_n (i := 0) rfl rfl ?_
                    refine wa_geti ck_12 fl_12_485 ly_84 ?_
                    refine wa_iload rfl ?_
                    refine wa_bipush (v := 24) (by decide) ?_
                    refine wa_bipush (v := 8) (by decide) ?_
                    refine wa_iload rfl ?_
                    refine wa_iconst (v := 4) (by decide) ?_
                    refine wa_irem (by ((try simp only [vp_in_iff, Int32.lt_iff_toInt_lt, Int32.le_iff_toInt_le, ← Int32.toInt_inj, Int32.reduceToInt, n_1, n_2, n_8, Int32.toNatClampNeg, Int64.lt_iff_toInt_lt, Int64.le_iff_toInt_le, ← Int64.toInt_inj, Int64.reduceToInt, Int32.toInt_toInt64, lg_cmp_ge, lg_cmp_le, lg_cmp_gt, lg_cmp_lt, lg_cmp_eq, Bool.false_eq_true, Bool.true_eq_false, reduceCtorEq, false_iff, true_iff, iff_true, iff_false, and_true, true_and, and_false, false_and, reduceIte, ite_true, ite_false, eq_self] at *)) <;> omega) ?_
                    refine wa_top (fun v77 hv77 => ?_)
                    have tv77 := i_remU hv77
                    clear hv77
                    refine wa_imul ?_
                    refine wa_top (fun v78 hv78 => ?_)
                    have tv78 := i_mulT hv78
                    clear hv78
                    refine wa_isub ?_
                    refine wa_top (fun v79 hv79 => ?_)
                    have tv79 := i_subT hv79
                    clear hv79
                    refine wa_ishr ?_
                    refine wa_top (fun v80 hv80 => ?_)
                    clear hv80
                    refine wa_i2b ?_
                    refine wa_top (fun v81 hv81 => ?_)
                    clear hv81
                    refine wa_bast ly_208 (by ((try simp only [vp_in_iff, Int32.lt_iff_toInt_lt, Int32.le_iff_toInt_le, ← Int32.toInt_inj, Int32.reduceToInt, n_1, n_2, n_8, Int32.toNatClampNeg, Int64.lt_iff_toInt_lt, Int64.le_iff_toInt_le, ← Int64.toInt_inj, Int64.reduceToInt, Int32.toInt_toInt64, lg_cmp_ge, lg_cmp_le, lg_cmp_gt, lg_cmp_lt, lg_cmp_eq, Bool.false_eq_true, Bool.true_eq_false, reduceCtorEq, false_iff, true_iff, iff_true, iff_false, and_true, true_and, and_false, false_and, reduceIte, ite_true, ite_false, eq_self] at *)) <;> omega) (fun s82 hs82 => ?_)
                    have Fs82 : Fm [208] [0, 2] σ s82 := by rw [hs82]; exact Fm.sy Fs60 rfl
                    refine wa_aload_n (i := 0) rfl rfl ?_
                    refine wa_dup rfl ?_
                    refine wa_geti ck_12 fl_12_485 ly_84 ?_
                    refine wa_rw (nx_gi_sy hs82) ?_
                    refine wa_iconst (v := 1) (by decide) ?_
                    refine wa_iadd ?_
                    refine wa_top (fun v83 hv83 => ?_)
                    have tv83 := i_addT hv83
                    clear hv83
                    refine wa_puti ck_12 fl_12_485 ly_84 (fun s84 hs84 => ?_)
                    have Fs84 : Fm [208] [0, 2] σ s84 := by rw [hs84]; exact Fm.si Fs82 rfl
                    refine wa_iinc (v := (1)) (lv' := fun y85 => [(6, .int y85), (7, .int a3), (0, .ref 84), (1, .int a0), (2, .int a1), (3, .int a2), (4, .int a3), (5, .int a4)]) (by decide) rfl (by decide) (fun _ => rfl) (fun y85 hy85 => ?_)
                    have ty85 := i_addT hy85.symm
                    clear hy85
                    refine wa_goto o_X12_feed_34 (by decide) ?_
                    refine wa_pick [2, 3, 4, 5, 6, 7, 0] rfl ?_
                    exact ih61 _ (by ((try simp only [vp_in_iff, Int32.lt_iff_toInt_lt, Int32.le_iff_toInt_le, ← Int32.toInt_inj, Int32.reduceToInt, n_1, n_2, n_8, Int32.toNatClampNeg, Int64.lt_iff_toInt_lt, Int64.le_iff_toInt_le, ← Int64.toInt_inj, Int64.reduceToInt, Int32.toInt_toInt64, lg_cmp_ge, lg_cmp_le, lg_cmp_gt, lg_cmp_lt, lg_cmp_eq, Bool.false_eq_true, Bool.true_eq_false, reduceCtorEq, false_iff, true_iff, iff_true, iff_false, and_true, true_and, and_false, false_and, reduceIte, ite_true, ite_false, eq_self] at *)) <;> omega) _ _ ⟨Fs84, ((nxk_gi_si hs84 (by decide)).trans ((nx_gi_sy hs82).trans (khi62_0))), (by ((try simp only [vp_in_iff, Int32.lt_iff_toInt_lt, Int32.le_iff_toInt_le, ← Int32.toInt_inj, Int32.reduceToInt, n_1, n_2, n_8, Int32.toNatClampNeg, Int64.lt_iff_toInt_lt, Int64.le_iff_toInt_le, ← Int64.toInt_inj, Int64.reduceToInt, Int32.toInt_toInt64, lg_cmp_ge, lg_cmp_le, lg_cmp_gt, lg_cmp_lt, lg_cmp_eq, Bool.false_eq_true, Bool.true_eq_false, reduceCtorEq, false_iff, true_iff, iff_true, iff_false, and_true, true_and, and_false, false_and, reduceIte, ite_true, ite_false, eq_self] at *)) <;> omega), (by rw [nxe_gi_si hs84]; first | assumption | (((try simp only [vp_in_iff, Int32.lt_iff_toInt_lt, Int32.le_iff_toInt_le, ← Int32.toInt_inj, Int32.reduceToInt, n_1, n_2, n_8, Int32.toNatClampNeg, Int64.lt_iff_toInt_lt, Int64.le_iff_toInt_le, ← Int64.toInt_inj, Int64.reduceToInt, Int32.toInt_toInt64, lg_cmp_ge, lg_cmp_le, lg_cmp_gt, lg_cmp_lt, lg_cmp_eq, Bool.false_eq_true, Bool.true_eq_false, reduceCtorEq, false_iff, true_iff, iff_true, iff_false, and_true, true_and, and_false, false_and, reduceIte, ite_true, ite_false, eq_self] at *)) <;> omega)), (by rw [nxe_gi_si hs84]; first | assumption | (((try simp only [vp_in_iff, Int32.lt_iff_toInt_lt, Int32.le_iff_toInt_le, ← Int32.toInt_inj, Int32.reduceToInt, n_1, n_2, n_8, Int32.toNatClampNeg, Int64.lt_iff_toInt_lt, Int64.le_iff_toInt_le, ← Int64.toInt_inj, Int64.reduceToInt, Int32.toInt_toInt64, lg_cmp_ge, lg_cmp_le, lg_cmp_gt, lg_cmp_lt, lg_cmp_eq, Bool.false_eq_true, Bool.true_eq_false, reduceCtorEq, false_iff, true_iff, iff_true, iff_false, and_true, true_and, and_false, false_and, reduceIte, ite_true, ite_false, eq_self] at *)) <;> omega)), trivial⟩ rfl
                · have mh66 := nle_mx h66
                  refine wa_iload_n (i := 3) rfl rfl ?_
                  refine wa_goto o_X12_feed_87 (by decide) ?_
                  refine wa_istoreD (lv' := [(7, .int a2), (0, .ref 84), (1, .int a0), (2, .int a1), (3, .int a2), (4, .int a3), (5, .int a4), (6, .int l6)]) (by decide) rfl ?_
                  refine wa_aload_n (i := 0) rfl rfl ?_
                  refine wa_getr ck_12 fl_12_15 ly_84 rf_84_1 ?_
                  refine wa_aload_n (i := 0) rfl rfl ?_
                  refine wa_geti ck_12 fl_12_485 ly_84 ?_
                  refine wa_iload rfl ?_
                  refine wa_bipush (v := 24) (by decide) ?_
                  refine wa_bipush (v := 8) (by decide) ?_
                  refine wa_iload rfl ?_
                  refine wa_iconst (v := 4) (by decide) ?_
                  refine wa_irem (by ((try simp only [vp_in_iff, Int32.lt_iff_toInt_lt, Int32.le_iff_toInt_le, ← Int32.toInt_inj, Int32.reduceToInt, n_1, n_2, n_8, Int32.toNatClampNeg, Int64.lt_iff_toInt_lt, Int64.le_iff_toInt_le, ← Int64.toInt_inj, Int64.reduceToInt, Int32.toInt_toInt64, lg_cmp_ge, lg_cmp_le, lg_cmp_gt, lg_cmp_lt, lg_cmp_eq, Bool.false_eq_true, Bool.true_eq_false, reduceCtorEq, false_iff, true_iff, iff_true, iff_false, and_true, true_and, and_false, false_and, reduceIte, ite_true, ite_false, eq_self] at *)) <;> omega) ?_
                  refine wa_top (fun v86 hv86 => ?_)
                  have tv86 := i_remU hv86
                  clear hv86
                  refine wa_imul ?_
                  refine wa_top (fun v87 hv87 => ?_)
                  have tv87 := i_mulT hv87
                  clear hv87
                  refine wa_isub ?_
                  refine wa_top (fun v88 hv88 => ?_)
                  have tv88 := i_subT hv88
                  clear hv88
                  refine wa_ishr ?_
                  refine wa_top (fun v89 hv89 => ?_)
                  clear hv89
                  refine wa_i2b ?_
                  refine wa_top (fun v90 hv90 => ?_)
                  clear hv90
                  refine wa_bast ly_208 (by ((try simp only [vp_in_iff, Int32.lt_iff_toInt_lt, Int32.le_iff_toInt_le, ← Int32.toInt_inj, Int32.reduceToInt, n_1, n_2, n_8, Int32.toNatClampNeg, Int64.lt_iff_toInt_lt, Int64.le_iff_toInt_le, ← Int64.toInt_inj, Int64.reduceToInt, Int32.toInt_toInt64, lg_cmp_ge, lg_cmp_le, lg_cmp_gt, lg_cmp_lt, lg_cmp_eq, Bool.false_eq_true, Bool.true_eq_false, reduceCtorEq, false_iff, true_iff, iff_true, iff_false, and_true, true_and, and_false, false_and, reduceIte, ite_true, ite_false, eq_self] at *)) <;> omega) (fun s91 hs91 => ?_)
                  have Fs91 : Fm [208] [0, 2] σ s91 := by rw [hs91]; exact Fm.sy Fs60 rfl
                  refine wa_aload_n (i := 0) rfl rfl ?_
                  refine wa_dup rfl ?_
                  refine wa_geti ck_12 fl_12_485 ly_84 ?_
                  refine wa_rw (nx_gi_sy hs91) ?_
                  refine wa_iconst (v := 1) (by decide) ?_
                  refine wa_iadd ?_
                  refine wa_top (fun v92 hv92 => ?_)
                  have tv92 := i_addT hv92
                  clear hv92
                  refine wa_puti ck_12 fl_12_485 ly_84 (fun s93 hs93 => ?_)
                  have Fs93 : Fm [208] [0, 2] σ s93 := by rw [hs93]; exact Fm.si Fs91 rfl
                  refine wa_iinc (v := (1)) (lv' := fun y94 => [(6, .int y94), (7, .int a2), (0, .ref 84), (1, .int a0), (2, .int a1), (3, .int a2), (4, .int a3), (5, .int a4)]) (by decide) rfl (by decide) (fun _ => rfl) (fun y94 hy94 => ?_)
                  have ty94 := i_addT hy94.symm
                  clear hy94
                  refine wa_goto o_X12_feed_34 (by decide) ?_
                  refine wa_pick [2, 3, 4, 5, 6, 7, 0] rfl ?_
                  exact ih61 _ (by ((try simp only [vp_in_iff, Int32.lt_iff_toInt_lt, Int32.le_iff_toInt_le, ← Int32.toInt_inj, Int32.reduceToInt, n_1, n_2, n_8, Int32.toNatClampNeg, Int64.lt_iff_toInt_lt, Int64.le_iff_toInt_le, ← Int64.toInt_inj, Int64.reduceToInt, Int32.toInt_toInt64, lg_cmp_ge, lg_cmp_le, lg_cmp_gt, lg_cmp_lt, lg_cmp_eq, Bool.false_eq_true, Bool.true_eq_false, reduceCtorEq, false_iff, true_iff, iff_true, iff_false, and_true, true_and, and_false, false_and, reduceIte, ite_true, ite_false, eq_self] at *)) <;> omega) _ _ ⟨Fs93, ((nxk_gi_si hs93 (by decide)).trans ((nx_gi_sy hs91).trans (khi62_0))), (by ((try simp only [vp_in_iff, Int32.lt_iff_toInt_lt, Int32.le_iff_toInt_le, ← Int32.toInt_inj, Int32.reduceToInt, n_1, n_2, n_8, Int32.toNatClampNeg, Int64.lt_iff_toInt_lt, Int64.le_iff_toInt_le, ← Int64.toInt_inj, Int64.reduceToInt, Int32.toInt_toInt64, lg_cmp_ge, lg_cmp_le, lg_cmp_gt, lg_cmp_lt, lg_cmp_eq, Bool.false_eq_true, Bool.true_eq_false, reduceCtorEq, false_iff, true_iff, iff_true, iff_false, and_true, true_and, and_false, false_and, reduceIte, ite_true, ite_false, eq_self] at *)) <;> omega), (by rw [nxe_gi_si hs93]; first | assumption | (((try simp only [vp_in_iff, Int32.lt_iff_toInt_lt, Int32.le_iff_toInt_le, ← Int32.toInt_inj, Int32.reduceToInt, n_1, n_2, n_8, Int32.toNatClampNeg, Int64.lt_iff_toInt_lt, Int64.le_iff_toInt_le, ← Int64.toInt_inj, Int64.reduceToInt, Int32.toInt_toInt64, lg_cmp_ge, lg_cmp_le, lg_cmp_gt, lg_cmp_lt, lg_cmp_eq, Bool.false_eq_true, Bool.true_eq_false, reduceCtorEq, false_iff, true_iff, iff_true, iff_false, and_true, true_and, and_false, false_and, reduceIte, ite_true, ite_false, eq_self] at *)) <;> omega)), (by rw [nxe_gi_si hs93]; first | assumption | (((try simp only [vp_in_iff, Int32.lt_iff_toInt_lt, Int32.le_iff_toInt_le, ← Int32.toInt_inj, Int32.reduceToInt, n_1, n_2, n_8, Int32.toNatClampNeg, Int64.lt_iff_toInt_lt, Int64.le_iff_toInt_le, ← Int64.toInt_inj, Int64.reduceToInt, Int32.toInt_toInt64, lg_cmp_ge, lg_cmp_le, lg_cmp_gt, lg_cmp_lt, lg_cmp_eq, Bool.false_eq_true, Bool.true_eq_false, reduceCtorEq, false_iff, true_iff, iff_true, iff_false, and_true, true_and, and_false, false_and, reduceIte, ite_true, ite_false, eq_self] at *)) <;> omega)), trivial⟩ rfl
              · have mh65 := nle_mx h65
                refine wa_iload_n (i := 2) rfl rfl ?_
                refine wa_goto o_X12_feed_87 (by decide) ?_
                refine wa_istoreD (lv' := [(7, .int a1), (0, .ref 84), (1, .int a0), (2, .int a1), (3, .int a2), (4, .int a3), (5, .int a4), (6, .int l6)]) (by decide) rfl ?_
                refine wa_aload_n (i := 0) rfl rfl ?_
                refine wa_getr ck_12 fl_12_15 ly_84 rf_84_1 ?_
                refine wa_aload_n (i := 0) rfl rfl ?_
                refine wa_geti ck_12 fl_12_485 ly_84 ?_
                refine wa_iload rfl ?_
                refine wa_bipush (v := 24) (by decide) ?_
                refine wa_bipush (v := 8) (by decide) ?_
                refine wa_iload rfl ?_
                refine wa_iconst (v := 4) (by decide) ?_
                refine wa_irem (by ((try simp only [vp_in_iff, Int32.lt_iff_toInt_lt, Int32.le_iff_toInt_le, ← Int32.toInt_inj, Int32.reduceToInt, n_1, n_2, n_8, Int32.toNatClampNeg, Int64.lt_iff_toInt_lt, Int64.le_iff_toInt_le, ← Int64.toInt_inj, Int64.reduceToInt, Int32.toInt_toInt64, lg_cmp_ge, lg_cmp_le, lg_cmp_gt, lg_cmp_lt, lg_cmp_eq, Bool.false_eq_true, Bool.true_eq_false, reduceCtorEq, false_iff, true_iff, iff_true, iff_false, and_true, true_and, and_false, false_and, reduceIte, ite_true, ite_false, eq_self] at *)) <;> omega) ?_
                refine wa_top (fun v95 hv95 => ?_)
                have tv95 := i_remU hv95
                clear hv95
                refine wa_imul ?_
                refine wa_top (fun v96 hv96 => ?_)
                have tv96 := i_mulT hv96
                clear hv96
                refine wa_isub ?_
                refine wa_top (fun v97 hv97 => ?_)
                have tv97 := i_subT hv97
                clear hv97
                refine wa_ishr ?_
                refine wa_top (fun v98 hv98 => ?_)
                clear hv98
                refine wa_i2b ?_
                refine wa_top (fun v99 hv99 => ?_)
                clear hv99
                refine wa_bast ly_208 (by ((try simp only [vp_in_iff, Int32.lt_iff_toInt_lt, Int32.le_iff_toInt_le, ← Int32.toInt_inj, Int32.reduceToInt, n_1, n_2, n_8, Int32.toNatClampNeg, Int64.lt_iff_toInt_lt, Int64.le_iff_toInt_le, ← Int64.toInt_inj, Int64.reduceToInt, Int32.toInt_toInt64, lg_cmp_ge, lg_cmp_le, lg_cmp_gt, lg_cmp_lt, lg_cmp_eq, Bool.false_eq_true, Bool.true_eq_false, reduceCtorEq, false_iff, true_iff, iff_true, iff_false, and_true, true_and, and_false, false_and, reduceIte, ite_true, ite_false, eq_self] at *)) <;> omega) (fun s100 hs100 => ?_)
                have Fs100 : Fm [208] [0, 2] σ s100 := by rw [hs100]; exact Fm.sy Fs60 rfl
                refine wa_aload_n (i := 0) rfl rfl ?_
                refine wa_dup rfl ?_
                refine wa_geti ck_12 fl_12_485 ly_84 ?_
                refine wa_rw (nx_gi_sy hs100) ?_
                refine wa_iconst (v := 1) (by decide) ?_
                refine wa_iadd ?_
                refine wa_top (fun v101 hv101 => ?_)
                have tv101 := i_addT hv101
                clear hv101
                refine wa_puti ck_12 fl_12_485 ly_84 (fun s102 hs102 => ?_)
                have Fs102 : Fm [208] [0, 2] σ s102 := by rw [hs102]; exact Fm.si Fs100 rfl
                refine wa_iinc (v := (1)) (lv' := fun y103 => [(6, .int y103), (7, .int a1), (0, .ref 84), (1, .int a0), (2, .int a1), (3, .int a2), (4, .int a3), (5, .int a4)]) (by decide) rfl (by decide) (fun _ => rfl) (fun y103 hy103 => ?_)
                have ty103 := i_addT hy103.symm
                clear hy103
                refine wa_goto o_X12_feed_34 (by decide) ?_
                refine wa_pick [2, 3, 4, 5, 6, 7, 0] rfl ?_
                exact ih61 _ (by ((try simp only [vp_in_iff, Int32.lt_iff_toInt_lt, Int32.le_iff_toInt_le, ← Int32.toInt_inj, Int32.reduceToInt, n_1, n_2, n_8, Int32.toNatClampNeg, Int64.lt_iff_toInt_lt, Int64.le_iff_toInt_le, ← Int64.toInt_inj, Int64.reduceToInt, Int32.toInt_toInt64, lg_cmp_ge, lg_cmp_le, lg_cmp_gt, lg_cmp_lt, lg_cmp_eq, Bool.false_eq_true, Bool.true_eq_false, reduceCtorEq, false_iff, true_iff, iff_true, iff_false, and_true, true_and, and_false, false_and, reduceIte, ite_true, ite_false, eq_self] at *)) <;> omega) _ _ ⟨Fs102, ((nxk_gi_si hs102 (by decide)).trans ((nx_gi_sy hs100).trans (khi62_0))), (by ((try simp only [vp_in_iff, Int32.lt_iff_toInt_lt, Int32.le_iff_toInt_le, ← Int32.toInt_inj, Int32.reduceToInt, n_1, n_2, n_8, Int32.toNatClampNeg, Int64.lt_iff_toInt_lt, Int64.le_iff_toInt_le, ← Int64.toInt_inj, Int64.reduceToInt, Int32.toInt_toInt64, lg_cmp_ge, lg_cmp_le, lg_cmp_gt, lg_cmp_lt, lg_cmp_eq, Bool.false_eq_true, Bool.true_eq_false, reduceCtorEq, false_iff, true_iff, iff_true, iff_false, and_true, true_and, and_false, false_and, reduceIte, ite_true, ite_false, eq_self] at *)) <;> omega), (by rw [nxe_gi_si hs102]; first | assumption | (((try simp only [vp_in_iff, Int32.lt_iff_toInt_lt, Int32.le_iff_toInt_le, ← Int32.toInt_inj, Int32.reduceToInt, n_1, n_2, n_8, Int32.toNatClampNeg, Int64.lt_iff_toInt_lt, Int64.le_iff_toInt_le, ← Int64.toInt_inj, Int64.reduceToInt, Int32.toInt_toInt64, lg_cmp_ge, lg_cmp_le, lg_cmp_gt, lg_cmp_lt, lg_cmp_eq, Bool.false_eq_true, Bool.true_eq_false, reduceCtorEq, false_iff, true_iff, iff_true, iff_false, and_true, true_and, and_false, false_and, reduceIte, ite_true, ite_false, eq_self] at *)) <;> omega)), (by rw [nxe_gi_si hs102]; first | assumption | (((try simp only [vp_in_iff, Int32.lt_iff_toInt_lt, Int32.le_iff_toInt_le, ← Int32.toInt_inj, Int32.reduceToInt, n_1, n_2, n_8, Int32.toNatClampNeg, Int64.lt_iff_toInt_lt, Int64.le_iff_toInt_le, ← Int64.toInt_inj, Int64.reduceToInt, Int32.toInt_toInt64, lg_cmp_ge, lg_cmp_le, lg_cmp_gt, lg_cmp_lt, lg_cmp_eq, Bool.false_eq_true, Bool.true_eq_false, reduceCtorEq, false_iff, true_iff, iff_true, iff_false, and_true, true_and, and_false, false_and, reduceIte, ite_true, ite_false, eq_self] at *)) <;> omega)), trivial⟩ rfl
            · have mh64 := nle_mx h64
              refine wa_iload_n (i := 1) rfl rfl ?_
              refine wa_goto o_X12_feed_87 (by decide) ?_
              refine wa_istoreD (lv' := [(7, .int a0), (0, .ref 84), (1, .int a0), (2, .int a1), (3, .int a2), (4, .int a3), (5, .int a4), (6, .int l6)]) (by decide) rfl ?_
              refine wa_aload_n (i := 0) rfl rfl ?_
              refine wa_getr ck_12 fl_12_15 ly_84 rf_84_1 ?_
              refine wa_aload_n (i := 0) rfl rfl ?_
              refine wa_geti ck_12 fl_12_485 ly_84 ?_
              refine wa_iload rfl ?_
              refine wa_bipush (v := 24) (by decide) ?_
              refine wa_bipush (v := 8) (by decide) ?_
              refine wa_iload rfl ?_
              refine wa_iconst (v := 4) (by decide) ?_
              refine wa_irem (by ((try simp only [vp_in_iff, Int32.lt_iff_toInt_lt, Int32.le_iff_toInt_le, ← Int32.toInt_inj, Int32.reduceToInt, n_1, n_2, n_8, Int32.toNatClampNeg, Int64.lt_iff_toInt_lt, Int64.le_iff_toInt_le, ← Int64.toInt_inj, Int64.reduceToInt, Int32.toInt_toInt64, lg_cmp_ge, lg_cmp_le, lg_cmp_gt, lg_cmp_lt, lg_cmp_eq, Bool.false_eq_true, Bool.true_eq_false, reduceCtorEq, false_iff, true_iff, iff_true, iff_false, and_true, true_and, and_false, false_and, reduceIte, ite_true, ite_false, eq_self] at *)) <;> omega) ?_
              refine wa_top (fun v104 hv104 => ?_)
              have tv104 := i_remU hv104
              clear hv104
              refine wa_imul ?_
              refine wa_top (fun v105 hv105 => ?_)
              have tv105 := i_mulT hv105
              clear hv105
              refine wa_isub ?_
              refine wa_top (fun v106 hv106 => ?_)
              have tv106 := i_subT hv106
              clear hv106
              refine wa_ishr ?_
              refine wa_top (fun v107 hv107 => ?_)
              clear hv107
              refine wa_i2b ?_
              refine wa_top (fun v108 hv108 => ?_)
              clear hv108
              refine wa_bast ly_208 (by ((try simp only [vp_in_iff, Int32.lt_iff_toInt_lt, Int32.le_iff_toInt_le, ← Int32.toInt_inj, Int32.reduceToInt, n_1, n_2, n_8, Int32.toNatClampNeg, Int64.lt_iff_toInt_lt, Int64.le_iff_toInt_le, ← Int64.toInt_inj, Int64.reduceToInt, Int32.toInt_toInt64, lg_cmp_ge, lg_cmp_le, lg_cmp_gt, lg_cmp_lt, lg_cmp_eq, Bool.false_eq_true, Bool.true_eq_false, reduceCtorEq, false_iff, true_iff, iff_true, iff_false, and_true, true_and, and_false, false_and, reduceIte, ite_true, ite_false, eq_self] at *)) <;> omega) (fun s109 hs109 => ?_)
              have Fs109 : Fm [208] [0, 2] σ s109 := by rw [hs109]; exact Fm.sy Fs60 rfl
              refine wa_aload_n (i := 0) rfl rfl ?_
              refine wa_dup rfl ?_
              refine wa_geti ck_12 fl_12_485 ly_84 ?_
              refine wa_rw (nx_gi_sy hs109) ?_
              refine wa_iconst (v := 1) (by decide) ?_
              refine wa_iadd ?_
              refine wa_top (fun v110 hv110 => ?_)
              have tv110 := i_addT hv110
              clear hv110
              refine wa_puti ck_12 fl_12_485 ly_84 (fun s111 hs111 => ?_)
              have Fs111 : Fm [208] [0, 2] σ s111 := by rw [hs111]; exact Fm.si Fs109 rfl
              refine wa_iinc (v := (1)) (lv' := fun y112 => [(6, .int y112), (7, .int a0), (0, .ref 84), (1, .int a0), (2, .int a1), (3, .int a2), (4, .int a3), (5, .int a4)]) (by decide) rfl (by decide) (fun _ => rfl) (fun y112 hy112 => ?_)
              have ty112 := i_addT hy112.symm
              clear hy112
              refine wa_goto o_X12_feed_34 (by decide) ?_
              refine wa_pick [2, 3, 4, 5, 6, 7, 0] rfl ?_
              exact ih61 _ (by ((try simp only [vp_in_iff, Int32.lt_iff_toInt_lt, Int32.le_iff_toInt_le, ← Int32.toInt_inj, Int32.reduceToInt, n_1, n_2, n_8, Int32.toNatClampNeg, Int64.lt_iff_toInt_lt, Int64.le_iff_toInt_le, ← Int64.toInt_inj, Int64.reduceToInt, Int32.toInt_toInt64, lg_cmp_ge, lg_cmp_le, lg_cmp_gt, lg_cmp_lt, lg_cmp_eq, Bool.false_eq_true, Bool.true_eq_false, reduceCtorEq, false_iff, true_iff, iff_true, iff_false, and_true, true_and, and_false, false_and, reduceIte, ite_true, ite_false, eq_self] at *)) <;> omega) _ _ ⟨Fs111, ((nxk_gi_si hs111 (by decide)).trans ((nx_gi_sy hs109).trans (khi62_0))), (by ((try simp only [vp_in_iff, Int32.lt_iff_toInt_lt, Int32.le_iff_toInt_le, ← Int32.toInt_inj, Int32.reduceToInt, n_1, n_2, n_8, Int32.toNatClampNeg, Int64.lt_iff_toInt_lt, Int64.le_iff_toInt_le, ← Int64.toInt_inj, Int64.reduceToInt, Int32.toInt_toInt64, lg_cmp_ge, lg_cmp_le, lg_cmp_gt, lg_cmp_lt, lg_cmp_eq, Bool.false_eq_true, Bool.true_eq_false, reduceCtorEq, false_iff, true_iff, iff_true, iff_false, and_true, true_and, and_false, false_and, reduceIte, ite_true, ite_false, eq_self] at *)) <;> omega), (by rw [nxe_gi_si hs111]; first | assumption | (((try simp only [vp_in_iff, Int32.lt_iff_toInt_lt, Int32.le_iff_toInt_le, ← Int32.toInt_inj, Int32.reduceToInt, n_1, n_2, n_8, Int32.toNatClampNeg, Int64.lt_iff_toInt_lt, Int64.le_iff_toInt_le, ← Int64.toInt_inj, Int64.reduceToInt, Int32.toInt_toInt64, lg_cmp_ge, lg_cmp_le, lg_cmp_gt, lg_cmp_lt, lg_cmp_eq, Bool.false_eq_true, Bool.true_eq_false, reduceCtorEq, false_iff, true_iff, iff_true, iff_false, and_true, true_and, and_false, false_and, reduceIte, ite_true, ite_false, eq_self] at *)) <;> omega)), (by rw [nxe_gi_si hs111]; first | assumption | (((try simp only [vp_in_iff, Int32.lt_iff_toInt_lt, Int32.le_iff_toInt_le, ← Int32.toInt_inj, Int32.reduceToInt, n_1, n_2, n_8, Int32.toNatClampNeg, Int64.lt_iff_toInt_lt, Int64.le_iff_toInt_le, ← Int64.toInt_inj, Int64.reduceToInt, Int32.toInt_toInt64, lg_cmp_ge, lg_cmp_le, lg_cmp_gt, lg_cmp_lt, lg_cmp_eq, Bool.false_eq_true, Bool.true_eq_false, reduceCtorEq, false_iff, true_iff, iff_true, iff_false, and_true, true_and, and_false, false_and, reduceIte, ite_true, ite_false, eq_self] at *)) <;> omega)), trivial⟩ rfl
      exact hi62 _ _ _ ⟨Fs58, (nxe_gi_si hs58), (by ((try simp only [vp_in_iff, Int32.lt_iff_toInt_lt, Int32.le_iff_toInt_le, ← Int32.toInt_inj, Int32.reduceToInt, n_1, n_2, n_8, Int32.toNatClampNeg, Int64.lt_iff_toInt_lt, Int64.le_iff_toInt_le, ← Int64.toInt_inj, Int64.reduceToInt, Int32.toInt_toInt64, lg_cmp_ge, lg_cmp_le, lg_cmp_gt, lg_cmp_lt, lg_cmp_eq, Bool.false_eq_true, Bool.true_eq_false, reduceCtorEq, false_iff, true_iff, iff_true, iff_false, and_true, true_and, and_false, false_and, reduceIte, ite_true, ite_false, eq_self] at *)) <;> omega), (by rw [nxk_gi_si hs58 (by decide)]; first | assumption | (((try simp only [vp_in_iff, Int32.lt_iff_toInt_lt, Int32.le_iff_toInt_le, ← Int32.toInt_inj, Int32.reduceToInt, n_1, n_2, n_8, Int32.toNatClampNeg, Int64.lt_iff_toInt_lt, Int64.le_iff_toInt_le, ← Int64.toInt_inj, Int64.reduceToInt, Int32.toInt_toInt64, lg_cmp_ge, lg_cmp_le, lg_cmp_gt, lg_cmp_lt, lg_cmp_eq, Bool.false_eq_true, Bool.true_eq_false, reduceCtorEq, false_iff, true_iff, iff_true, iff_false, and_true, true_and, and_false, false_and, reduceIte, ite_true, ite_false, eq_self] at *)) <;> omega)), (by rw [nxk_gi_si hs58 (by decide)]; first | assumption | (((try simp only [vp_in_iff, Int32.lt_iff_toInt_lt, Int32.le_iff_toInt_le, ← Int32.toInt_inj, Int32.reduceToInt, n_1, n_2, n_8, Int32.toNatClampNeg, Int64.lt_iff_toInt_lt, Int64.le_iff_toInt_le, ← Int64.toInt_inj, Int64.reduceToInt, Int32.toInt_toInt64, lg_cmp_ge, lg_cmp_le, lg_cmp_gt, lg_cmp_lt, lg_cmp_eq, Bool.false_eq_true, Bool.true_eq_false, reduceCtorEq, false_iff, true_iff, iff_true, iff_false, and_true, true_and, and_false, false_and, reduceIte, ite_true, ite_false, eq_self] at *)) <;> omega)), trivial⟩ rfl
    · refine wa_iconst (v := 0) (by decide) ?_
      refine wa_ireturn rfl rfl ?_
      exact ⟨_, rfl, Fs58, (by rw [nxk_gi_si hs58 (by decide)]; first | assumption | (((try simp only [vp_in_iff, Int32.lt_iff_toInt_lt, Int32.le_iff_toInt_le, ← Int32.toInt_inj, Int32.reduceToInt, n_1, n_2, n_8, Int32.toNatClampNeg, Int64.lt_iff_toInt_lt, Int64.le_iff_toInt_le, ← Int64.toInt_inj, Int64.reduceToInt, Int32.toInt_toInt64, lg_cmp_ge, lg_cmp_le, lg_cmp_gt, lg_cmp_lt, lg_cmp_eq, Bool.false_eq_true, Bool.true_eq_false, reduceCtorEq, false_iff, true_iff, iff_true, iff_false, and_true, true_and, and_false, false_and, reduceIte, ite_true, ite_false, eq_self] at *)) <;> omega)), trivial⟩
set_option maxHeartbeats 4000000 in
theorem sp_X12_in (G : kG9) {d : Nat} (hd : 0 ≤ d) (σ : St) (a0 : Int64) (a1 : Int64) (a2 : Int64) : Ct G M_X12_in d [.long a0, .long a1, .long a2] σ (fun r σ' => ∃ x : Bool, r = some (.int (bI x)) ∧ σ = σ' ∧ (x = true ↔ a1.toInt ≤ a0.toInt ∧ a0.toInt ≤ a2.toInt) ∧ True) := by
  refine wa_start (by decide) rfl (Nat.le_of_ble_eq_true rfl) (lv := [(0, .long a0), (2, .long a1), (4, .long a2)]) rfl o_X12_in_0 rfl ?_
  refine wa_lload_n (i := 0) rfl rfl ?_
  refine wa_lload_n (i := 2) rfl rfl ?_
  refine wa_lcmp ?_
  refine wa_top (fun v1 hv1 => ?_)
  have tv1 := i_cmpT hv1
  clear hv1
  refine wa_if_lt o_X12_in_17 (by decide) (fun h2 => ?_) (fun h2 => ?_)
  · refine wa_iconst (v := 0) (by decide) ?_
    refine wa_zreturn false (rfl) rfl rfl ?_
    exact ⟨_, rfl, rfl, (by ((try simp only [vp_in_iff, Int32.lt_iff_toInt_lt, Int32.le_iff_toInt_le, ← Int32.toInt_inj, Int32.reduceToInt, n_1, n_2, n_8, Int32.toNatClampNeg, Int64.lt_iff_toInt_lt, Int64.le_iff_toInt_le, ← Int64.toInt_inj, Int64.reduceToInt, Int32.toInt_toInt64, lg_cmp_ge, lg_cmp_le, lg_cmp_gt, lg_cmp_lt, lg_cmp_eq, Bool.false_eq_true, Bool.true_eq_false, reduceCtorEq, false_iff, true_iff, iff_true, iff_false, and_true, true_and, and_false, false_and, reduceIte, ite_true, ite_false, eq_self] at *)) <;> omega), trivial⟩
  · refine wa_lload_n (i := 0) rfl rfl ?_
    refine wa_lload rfl ?_
    refine wa_lcmp ?_
    refine wa_top (fun v3 hv3 => ?_)
    have tv3 := i_cmpT hv3
    clear hv3
    refine wa_if_gt o_X12_in_17 (by decide) (fun h4 => ?_) (fun h4 => ?_)
    · refine wa_iconst (v := 0) (by decide) ?_
      refine wa_zreturn false (rfl) rfl rfl ?_
      exact ⟨_, rfl, rfl, (by ((try simp only [vp_in_iff, Int32.lt_iff_toInt_lt, Int32.le_iff_toInt_le, ← Int32.toInt_inj, Int32.reduceToInt, n_1, n_2, n_8, Int32.toNatClampNeg, Int64.lt_iff_toInt_lt, Int64.le_iff_toInt_le, ← Int64.toInt_inj, Int64.reduceToInt, Int32.toInt_toInt64, lg_cmp_ge, lg_cmp_le, lg_cmp_gt, lg_cmp_lt, lg_cmp_eq, Bool.false_eq_true, Bool.true_eq_false, reduceCtorEq, false_iff, true_iff, iff_true, iff_false, and_true, true_and, and_false, false_and, reduceIte, ite_true, ite_false, eq_self] at *)) <;> omega), trivial⟩
    · refine wa_iconst (v := 1) (by decide) ?_
      refine wa_goto o_X12_in_18 (by decide) ?_
      refine wa_zreturn true (rfl) rfl rfl ?_
      exact ⟨_, rfl, rfl, (by ((try simp only [vp_in_iff, Int32.lt_iff_toInt_lt, Int32.le_iff_toInt_le, ← Int32.toInt_inj, Int32.reduceToInt, n_1, n_2, n_8, Int32.toNatClampNeg, Int64.lt_iff_toInt_lt, Int64.le_iff_toInt_le, ← Int64.toInt_inj, Int64.reduceToInt, Int32.toInt_toInt64, lg_cmp_ge, lg_cmp_le, lg_cmp_gt, lg_cmp_lt, lg_cmp_eq, Bool.false_eq_true, Bool.true_eq_false, reduceCtorEq, false_iff, true_iff, iff_true, iff_false, and_true, true_and, and_false, false_and, reduceIte, ite_true, ite_false, eq_self] at *)) <;> omega), trivial⟩
set_option maxHeartbeats 4000000 in
theorem sp_X12_end (G : kG9) {d : Nat} (hd : 1 ≤ d) (σ : St) (a0 : Int32) (r1 : 0 ≤ (gi σ 84 2).toInt ∧ (gi σ 84 2).toInt ≤ 2000) : Ct G M_X12_end d [.ref 84, .int a0] σ (fun r σ' => Fm [] [0, 2] σ σ' ∧ (0 ≤ (gi σ' 84 2).toInt ∧ (gi σ' 84 2).toInt ≤ 2000) ∧ True) := by
  refine wa_start (by decide) rfl (Nat.le_of_ble_eq_true rfl) (lv := [(0, .ref 84), (1, .int a0)]) rfl o_X12_end_0 rfl ?_
  have ua0 := Int32.toInt_lt a0
  have wa0 := Int32.le_toInt a0
  refine wa_aload_n (i := 0) rfl rfl ?_
  refine wa_iload_n (i := 1) rfl rfl ?_
  refine wa_i2l ?_
  refine wa_lconst (v := 0) (by decide) ?_
  refine wa_aload_n (i := 0) rfl rfl ?_
  refine wa_geti ck_12 fl_12_485 ly_84 ?_
  refine wa_i2l ?_
  refine wa_Si (d9 := d - 1) [.long _, .long _, .long _] [.ref 84] (sp_X12_in G (d := d - 1) (by omega) σ _ _ _) (rfl) rfl rfl (zr (by omega)) mk_X12_in ml_12_504 (Nat.le_of_ble_eq_true rfl) (fun x2 s1 hs1 => ?_)
  obtain ⟨bx2, ex2, zs1, cx2_1, -⟩ := pB hs1
  subst ex2
  subst zs1
  refine wa_if_eq o_X12_end_19 (by decide) (fun h3 => ?_) (fun h3 => ?_)
  · replace h3 := bI_f (b := bx2) (rfl) h3
    have uh3_0 := iff_f cx2_1 h3
    refine wa_iconst (v := 1) (by decide) ?_
    refine wa_puti ck_12 fl_12_3 ly_84 (fun s4 hs4 => ?_)
    have Fs4 : Fm [] [0, 2] σ s4 := by rw [hs4]; exact Fm.si (Fm.rf [] [0, 2] σ) rfl
    refine wa_aload_n (i := 0) rfl rfl ?_
    refine wa_aload_n (i := 0) rfl rfl ?_
    refine wa_geti ck_12 fl_12_3 ly_84 ?_
    refine wa_rw (nxe_gi_si hs4) ?_
    refine wa_if_le o_X12_end_38 (by decide) (fun h5 => ?_) (fun h5 => ?_)
    · refine wa_iload_n (i := 1) rfl rfl ?_
      refine wa_puti ck_12 fl_12_485 ly_84 (fun s6 hs6 => ?_)
      have Fs6 : Fm [] [0, 2] σ s6 := by rw [hs6]; exact Fm.si Fs4 rfl
      refine wa_return (st := []) rfl rfl ?_
      exact ⟨Fs6, (by rw [nxe_gi_si hs6]; first | assumption | (((try simp only [vp_in_iff, Int32.lt_iff_toInt_lt, Int32.le_iff_toInt_le, ← Int32.toInt_inj, Int32.reduceToInt, n_1, n_2, n_8, Int32.toNatClampNeg, Int64.lt_iff_toInt_lt, Int64.le_iff_toInt_le, ← Int64.toInt_inj, Int64.reduceToInt, Int32.toInt_toInt64, lg_cmp_ge, lg_cmp_le, lg_cmp_gt, lg_cmp_lt, lg_cmp_eq, Bool.false_eq_true, Bool.true_eq_false, reduceCtorEq, false_iff, true_iff, iff_true, iff_false, and_true, true_and, and_false, false_and, reduceIte, ite_true, ite_false, eq_self] at *)) <;> omega)), trivial⟩
    · refine wa_aload_n (i := 0) rfl rfl ?_
      refine wa_geti ck_12 fl_12_485 ly_84 ?_
      refine wa_rw (nxk_gi_si hs4 (by decide)) ?_
      refine wa_goto o_X12_end_39 (by decide) ?_
      refine wa_puti ck_12 fl_12_485 ly_84 (fun s7 hs7 => ?_)
      have Fs7 : Fm [] [0, 2] σ s7 := by rw [hs7]; exact Fm.si Fs4 rfl
      refine wa_return (st := []) rfl rfl ?_
      exact ⟨Fs7, (by rw [nxe_gi_si hs7]; first | assumption | (((try simp only [vp_in_iff, Int32.lt_iff_toInt_lt, Int32.le_iff_toInt_le, ← Int32.toInt_inj, Int32.reduceToInt, n_1, n_2, n_8, Int32.toNatClampNeg, Int64.lt_iff_toInt_lt, Int64.le_iff_toInt_le, ← Int64.toInt_inj, Int64.reduceToInt, Int32.toInt_toInt64, lg_cmp_ge, lg_cmp_le, lg_cmp_gt, lg_cmp_lt, lg_cmp_eq, Bool.false_eq_true, Bool.true_eq_false, reduceCtorEq, false_iff, true_iff, iff_true, iff_false, and_true, true_and, and_false, false_and, reduceIte, ite_true, ite_false, eq_self] at *)) <;> omega)), trivial⟩
  · replace h3 := bI_t (b := bx2) (rfl) h3
    have uh3_0 := iff_t cx2_1 h3
    refine wa_iconst (v := 0) (by decide) ?_
    refine wa_goto o_X12_end_20 (by decide) ?_
    refine wa_puti ck_12 fl_12_3 ly_84 (fun s8 hs8 => ?_)
    have Fs8 : Fm [] [0, 2] σ s8 := by rw [hs8]; exact Fm.si (Fm.rf [] [0, 2] σ) rfl
    refine wa_aload_n (i := 0) rfl rfl ?_
    refine wa_aload_n (i := 0) rfl rfl ?_
    refine wa_geti ck_12 fl_12_3 ly_84 ?_
    refine wa_rw (nxe_gi_si hs8) ?_
    refine wa_if_le o_X12_end_38 (by decide) (fun h9 => ?_) (fun h9 => ?_)
    · refine wa_iload_n (i := 1) rfl rfl ?_
      refine wa_puti ck_12 fl_12_485 ly_84 (fun s10 hs10 => ?_)
      have Fs10 : Fm [] [0, 2] σ s10 := by rw [hs10]; exact Fm.si Fs8 rfl
      refine wa_return (st := []) rfl rfl ?_
      exact ⟨Fs10, (by rw [nxe_gi_si hs10]; first | assumption | (((try simp only [vp_in_iff, Int32.lt_iff_toInt_lt, Int32.le_iff_toInt_le, ← Int32.toInt_inj, Int32.reduceToInt, n_1, n_2, n_8, Int32.toNatClampNeg, Int64.lt_iff_toInt_lt, Int64.le_iff_toInt_le, ← Int64.toInt_inj, Int64.reduceToInt, Int32.toInt_toInt64, lg_cmp_ge, lg_cmp_le, lg_cmp_gt, lg_cmp_lt, lg_cmp_eq, Bool.false_eq_true, Bool.true_eq_false, reduceCtorEq, false_iff, true_iff, iff_true, iff_false, and_true, true_and, and_false, false_and, reduceIte, ite_true, ite_false, eq_self] at *)) <;> omega)), trivial⟩
    · refine wa_aload_n (i := 0) rfl rfl ?_
      refine wa_geti ck_12 fl_12_485 ly_84 ?_
      refine wa_rw (nxk_gi_si hs8 (by decide)) ?_
      refine wa_goto o_X12_end_39 (by decide) ?_
      refine wa_puti ck_12 fl_12_485 ly_84 (fun s11 hs11 => ?_)
      have Fs11 : Fm [] [0, 2] σ s11 := by rw [hs11]; exact Fm.si Fs8 rfl
      refine wa_return (st := []) rfl rfl ?_
      exact ⟨Fs11, (by rw [nxe_gi_si hs11]; first | assumption | (((try simp only [vp_in_iff, Int32.lt_iff_toInt_lt, Int32.le_iff_toInt_le, ← Int32.toInt_inj, Int32.reduceToInt, n_1, n_2, n_8, Int32.toNatClampNeg, Int64.lt_iff_toInt_lt, Int64.le_iff_toInt_le, ← Int64.toInt_inj, Int64.reduceToInt, Int32.toInt_toInt64, lg_cmp_ge, lg_cmp_le, lg_cmp_gt, lg_cmp_lt, lg_cmp_eq, Bool.false_eq_true, Bool.true_eq_false, reduceCtorEq, false_iff, true_iff, iff_true, iff_false, and_true, true_and, and_false, false_and, reduceIte, ite_true, ite_false, eq_self] at *)) <;> omega)), trivial⟩
set_option maxHeartbeats 4000000 in
theorem sp_X12_at (G : kG9) {d : Nat} (hd : 0 ≤ d) (σ : St) (a0 : Int32) (a1 : Int32) (p1 : 0 ≤ a0.toInt ∧ a0.toInt < 101) (p2 : 0 ≤ a1.toInt ∧ a1.toInt < 256) : Ct G M_X12_at d [.ref 84, .int a0, .int a1] σ (fun r σ' => ∃ x : Int32, r = some (.int x) ∧ σ = σ' ∧ True) := by
  refine wa_start (by decide) rfl (Nat.le_of_ble_eq_true rfl) (lv := [(0, .ref 84), (1, .int a0), (2, .int a1)]) rfl o_X12_at_0 rfl ?_
  have ua0 := Int32.toInt_lt a0
  have wa0 := Int32.le_toInt a0
  have ua1 := Int32.toInt_lt a1
  have wa1 := Int32.le_toInt a1
  refine wa_aload_n (i := 0) rfl rfl ?_
  refine wa_getr ck_12 fl_12_19 ly_84 rf_84_3 ?_
  refine wa_sipush (v := 256) (by decide) ?_
  refine wa_iload_n (i := 1) rfl rfl ?_
  refine wa_imul ?_
  refine wa_top (fun v1 hv1 => ?_)
  have tv1 := i_mulT hv1
  clear hv1
  refine wa_iload_n (i := 2) rfl rfl ?_
  refine wa_iadd ?_
  refine wa_top (fun v2 hv2 => ?_)
  have tv2 := i_addT hv2
  clear hv2
  refine wa_bald ly_209 (by ((try simp only [vp_in_iff, Int32.lt_iff_toInt_lt, Int32.le_iff_toInt_le, ← Int32.toInt_inj, Int32.reduceToInt, n_1, n_2, n_8, Int32.toNatClampNeg, Int64.lt_iff_toInt_lt, Int64.le_iff_toInt_le, ← Int64.toInt_inj, Int64.reduceToInt, Int32.toInt_toInt64, lg_cmp_ge, lg_cmp_le, lg_cmp_gt, lg_cmp_lt, lg_cmp_eq, Bool.false_eq_true, Bool.true_eq_false, reduceCtorEq, false_iff, true_iff, iff_true, iff_false, and_true, true_and, and_false, false_and, reduceIte, ite_true, ite_false, eq_self] at *)) <;> omega) ?_
  refine wa_sipush (v := 255) (by decide) ?_
  refine wa_iand ?_
  refine wa_top (fun v3 hv3 => ?_)
  have tv3 := i_andT hv3
  clear hv3
  refine wa_ireturn rfl rfl ?_
  exact ⟨_, rfl, rfl, trivial⟩
set_option maxHeartbeats 4000000 in
theorem sp_X12_octet (G : kG9) {d : Nat} (hd : 1 ≤ d) (σ : St) (a0 : Int32) (a1 : Int32) : Ct G M_X12_octet d [.ref 84, .int a0, .int a1] σ (fun r σ' => ∃ x : Int32, r = some (.int x) ∧ Fm [] [0] σ σ' ∧ True) := by
  refine wa_start (by decide) rfl (Nat.le_of_ble_eq_true rfl) (lv := [(0, .ref 84), (1, .int a0), (2, .int a1)]) rfl o_X12_octet_0 rfl ?_
  have ua0 := Int32.toInt_lt a0
  have wa0 := Int32.le_toInt a0
  have ua1 := Int32.toInt_lt a1
  have wa1 := Int32.le_toInt a1
  refine wa_aload_n (i := 0) rfl rfl ?_
  refine wa_iload_n (i := 1) rfl rfl ?_
  refine wa_i2l ?_
  refine wa_lconst (v := 1) (by decide) ?_
  refine wa_ldc2 (v := (100)) (allW_in (kT_13 _ (List.mem_of_getElem? (i := 175) rfl)) rfl) ?_
  refine wa_Si (d9 := d - 1) [.long _, .long _, .long _] [.ref 84] (sp_X12_in G (d := d - 1) (by omega) σ _ _ _) (rfl) rfl rfl (zr (by omega)) mk_X12_in ml_12_504 (Nat.le_of_ble_eq_true rfl) (fun x2 s1 hs1 => ?_)
  obtain ⟨bx2, ex2, zs1, cx2_1, -⟩ := pB hs1
  subst ex2
  subst zs1
  refine wa_if_eq o_X12_octet_29 (by decide) (fun h3 => ?_) (fun h3 => ?_)
  · replace h3 := bI_f (b := bx2) (rfl) h3
    have uh3_0 := iff_f cx2_1 h3
    refine wa_iconst (v := 1) (by decide) ?_
    refine wa_puti ck_12 fl_12_3 ly_84 (fun s4 hs4 => ?_)
    have Fs4 : Fm [] [0] σ s4 := by rw [hs4]; exact Fm.si (Fm.rf [] [0] σ) rfl
    refine wa_aload_n (i := 0) rfl rfl ?_
    refine wa_geti ck_12 fl_12_3 ly_84 ?_
    refine wa_rw (nxe_gi_si hs4) ?_
    refine wa_if_le o_X12_octet_44 (by decide) (fun h5 => ?_) (fun h5 => ?_)
    · refine wa_aload_n (i := 0) rfl rfl ?_
      refine wa_iload_n (i := 1) rfl rfl ?_
      refine wa_iload_n (i := 2) rfl rfl ?_
      refine wa_Vi (d9 := d - 1) [.int _, .int _] [] (sp_X12_at G (d := d - 1) (by omega) s4 _ _ (by ((try simp only [vp_in_iff, Int32.lt_iff_toInt_lt, Int32.le_iff_toInt_le, ← Int32.toInt_inj, Int32.reduceToInt, n_1, n_2, n_8, Int32.toNatClampNeg, Int64.lt_iff_toInt_lt, Int64.le_iff_toInt_le, ← Int64.toInt_inj, Int64.reduceToInt, Int32.toInt_toInt64, lg_cmp_ge, lg_cmp_le, lg_cmp_gt, lg_cmp_lt, lg_cmp_eq, Bool.false_eq_true, Bool.true_eq_false, reduceCtorEq, false_iff, true_iff, iff_true, iff_false, and_true, true_and, and_false, false_and, reduceIte, ite_true, ite_false, eq_self] at *)) <;> omega) (by ((try simp only [vp_in_iff, Int32.lt_iff_toInt_lt, Int32.le_iff_toInt_le, ← Int32.toInt_inj, Int32.reduceToInt, n_1, n_2, n_8, Int32.toNatClampNeg, Int64.lt_iff_toInt_lt, Int64.le_iff_toInt_le, ← Int64.toInt_inj, Int64.reduceToInt, Int32.toInt_toInt64, lg_cmp_ge, lg_cmp_le, lg_cmp_gt, lg_cmp_lt, lg_cmp_eq, Bool.false_eq_true, Bool.true_eq_false, reduceCtorEq, false_iff, true_iff, iff_true, iff_false, and_true, true_and, and_false, false_and, reduceIte, ite_true, ite_false, eq_self] at *)) <;> omega)) (rfl) rfl rfl (zr (by omega)) mk_X12_at ly_84 ml_12_509 (Nat.le_of_ble_eq_true rfl) (fun x7 s6 hs6 => ?_)
      obtain ⟨zs6, -⟩ := pI hs6
      subst zs6
      refine wa_ireturn rfl rfl ?_
      exact ⟨_, rfl, Fs4, trivial⟩
    · refine wa_iconst (v := 0) (by decide) ?_
      refine wa_goto o_X12_octet_50 (by decide) ?_
      refine wa_ireturn rfl rfl ?_
      exact ⟨_, rfl, Fs4, trivial⟩
  · replace h3 := bI_t (b := bx2) (rfl) h3
    have uh3_0 := iff_t cx2_1 h3
    refine wa_iload_n (i := 2) rfl rfl ?_
    refine wa_i2l ?_
    refine wa_lconst (v := 0) (by decide) ?_
    refine wa_ldc2 (v := (255)) (allW_in (kT_12 _ (List.mem_of_getElem? (i := 99) rfl)) rfl) ?_
    refine wa_Si (d9 := d - 1) [.long _, .long _, .long _] [.ref 84] (sp_X12_in G (d := d - 1) (by omega) σ _ _ _) (rfl) rfl rfl (zr (by omega)) mk_X12_in ml_12_504 (Nat.le_of_ble_eq_true rfl) (fun x9 s8 hs8 => ?_)
    obtain ⟨bx9, ex9, zs8, cx9_1, -⟩ := pB hs8
    subst ex9
    subst zs8
    refine wa_if_eq o_X12_octet_29 (by decide) (fun h10 => ?_) (fun h10 => ?_)
    · replace h10 := bI_f (b := bx9) (rfl) h10
      have uh10_0 := iff_f cx9_1 h10
      refine wa_iconst (v := 1) (by decide) ?_
      refine wa_puti ck_12 fl_12_3 ly_84 (fun s11 hs11 => ?_)
      have Fs11 : Fm [] [0] σ s11 := by rw [hs11]; exact Fm.si (Fm.rf [] [0] σ) rfl
      refine wa_aload_n (i := 0) rfl rfl ?_
      refine wa_geti ck_12 fl_12_3 ly_84 ?_
      refine wa_rw (nxe_gi_si hs11) ?_
      refine wa_if_le o_X12_octet_44 (by decide) (fun h12 => ?_) (fun h12 => ?_)
      · refine wa_aload_n (i := 0) rfl rfl ?_
        refine wa_iload_n (i := 1) rfl rfl ?_
        refine wa_iload_n (i := 2) rfl rfl ?_
        refine wa_Vi (d9 := d - 1) [.int _, .int _] [] (sp_X12_at G (d := d - 1) (by omega) s11 _ _ (by ((try simp only [vp_in_iff, Int32.lt_iff_toInt_lt, Int32.le_iff_toInt_le, ← Int32.toInt_inj, Int32.reduceToInt, n_1, n_2, n_8, Int32.toNatClampNeg, Int64.lt_iff_toInt_lt, Int64.le_iff_toInt_le, ← Int64.toInt_inj, Int64.reduceToInt, Int32.toInt_toInt64, lg_cmp_ge, lg_cmp_le, lg_cmp_gt, lg_cmp_lt, lg_cmp_eq, Bool.false_eq_true, Bool.true_eq_false, reduceCtorEq, false_iff, true_iff, iff_true, iff_false, and_true, true_and, and_false, false_and, reduceIte, ite_true, ite_false, eq_self] at *)) <;> omega) (by ((try simp only [vp_in_iff, Int32.lt_iff_toInt_lt, Int32.le_iff_toInt_le, ← Int32.toInt_inj, Int32.reduceToInt, n_1, n_2, n_8, Int32.toNatClampNeg, Int64.lt_iff_toInt_lt, Int64.le_iff_toInt_le, ← Int64.toInt_inj, Int64.reduceToInt, Int32.toInt_toInt64, lg_cmp_ge, lg_cmp_le, lg_cmp_gt, lg_cmp_lt, lg_cmp_eq, Bool.false_eq_true, Bool.true_eq_false, reduceCtorEq, false_iff, true_iff, iff_true, iff_false, and_true, true_and, and_false, false_and, reduceIte, ite_true, ite_false, eq_self] at *)) <;> omega)) (rfl) rfl rfl (zr (by omega)) mk_X12_at ly_84 ml_12_509 (Nat.le_of_ble_eq_true rfl) (fun x14 s13 hs13 => ?_)
        obtain ⟨zs13, -⟩ := pI hs13
        subst zs13
        refine wa_ireturn rfl rfl ?_
        exact ⟨_, rfl, Fs11, trivial⟩
      · refine wa_iconst (v := 0) (by decide) ?_
        refine wa_goto o_X12_octet_50 (by decide) ?_
        refine wa_ireturn rfl rfl ?_
        exact ⟨_, rfl, Fs11, trivial⟩
    · replace h10 := bI_t (b := bx9) (rfl) h10
      have uh10_0 := iff_t cx9_1 h10
      refine wa_iconst (v := 0) (by decide) ?_
      refine wa_goto o_X12_octet_30 (by decide) ?_
      refine wa_puti ck_12 fl_12_3 ly_84 (fun s15 hs15 => ?_)
      have Fs15 : Fm [] [0] σ s15 := by rw [hs15]; exact Fm.si (Fm.rf [] [0] σ) rfl
      refine wa_aload_n (i := 0) rfl rfl ?_
      refine wa_geti ck_12 fl_12_3 ly_84 ?_
      refine wa_rw (nxe_gi_si hs15) ?_
      refine wa_if_le o_X12_octet_44 (by decide) (fun h16 => ?_) (fun h16 => ?_)
      · refine wa_aload_n (i := 0) rfl rfl ?_
        refine wa_iload_n (i := 1) rfl rfl ?_
        refine wa_iload_n (i := 2) rfl rfl ?_
        refine wa_Vi (d9 := d - 1) [.int _, .int _] [] (sp_X12_at G (d := d - 1) (by omega) s15 _ _ (by ((try simp only [vp_in_iff, Int32.lt_iff_toInt_lt, Int32.le_iff_toInt_le, ← Int32.toInt_inj, Int32.reduceToInt, n_1, n_2, n_8, Int32.toNatClampNeg, Int64.lt_iff_toInt_lt, Int64.le_iff_toInt_le, ← Int64.toInt_inj, Int64.reduceToInt, Int32.toInt_toInt64, lg_cmp_ge, lg_cmp_le, lg_cmp_gt, lg_cmp_lt, lg_cmp_eq, Bool.false_eq_true, Bool.true_eq_false, reduceCtorEq, false_iff, true_iff, iff_true, iff_false, and_true, true_and, and_false, false_and, reduceIte, ite_true, ite_false, eq_self] at *)) <;> omega) (by ((try simp only [vp_in_iff, Int32.lt_iff_toInt_lt, Int32.le_iff_toInt_le, ← Int32.toInt_inj, Int32.reduceToInt, n_1, n_2, n_8, Int32.toNatClampNeg, Int64.lt_iff_toInt_lt, Int64.le_iff_toInt_le, ← Int64.toInt_inj, Int64.reduceToInt, Int32.toInt_toInt64, lg_cmp_ge, lg_cmp_le, lg_cmp_gt, lg_cmp_lt, lg_cmp_eq, Bool.false_eq_true, Bool.true_eq_false, reduceCtorEq, false_iff, true_iff, iff_true, iff_false, and_true, true_and, and_false, false_and, reduceIte, ite_true, ite_false, eq_self] at *)) <;> omega)) (rfl) rfl rfl (zr (by omega)) mk_X12_at ly_84 ml_12_509 (Nat.le_of_ble_eq_true rfl) (fun x18 s17 hs17 => ?_)
        obtain ⟨zs17, -⟩ := pI hs17
        subst zs17
        refine wa_ireturn rfl rfl ?_
        exact ⟨_, rfl, Fs15, trivial⟩
      · refine wa_iconst (v := 0) (by decide) ?_
        refine wa_goto o_X12_octet_50 (by decide) ?_
        refine wa_ireturn rfl rfl ?_
        exact ⟨_, rfl, Fs15, trivial⟩
set_option maxHeartbeats 4000000 in
theorem sp_X12_poke (G : kG9) {d : Nat} (hd : 1 ≤ d) (σ : St) (a0 : Int32) (a1 : Int32) (a2 : Int32) : Ct G M_X12_poke d [.ref 84, .int a0, .int a1, .int a2] σ (fun r σ' => ∃ x : Int32, r = some (.int x) ∧ Fm [209] [0] σ σ' ∧ True) := by
  refine wa_start (by decide) rfl (Nat.le_of_ble_eq_true rfl) (lv := [(0, .ref 84), (1, .int a0), (2, .int a1), (3, .int a2)]) rfl o_X12_poke_0 rfl ?_
  have ua0 := Int32.toInt_lt a0
  have wa0 := Int32.le_toInt a0
  have ua1 := Int32.toInt_lt a1
  have wa1 := Int32.le_toInt a1
  have ua2 := Int32.toInt_lt a2
  have wa2 := Int32.le_toInt a2
  refine wa_aload_n (i := 0) rfl rfl ?_
  refine wa_iload_n (i := 1) rfl rfl ?_
  refine wa_i2l ?_
  refine wa_lconst (v := 1) (by decide) ?_
  refine wa_ldc2 (v := (100)) (allW_in (kT_13 _ (List.mem_of_getElem? (i := 175) rfl)) rfl) ?_
  refine wa_Si (d9 := d - 1) [.long _, .long _, .long _] [.ref 84] (sp_X12_in G (d := d - 1) (by omega) σ _ _ _) (rfl) rfl rfl (zr (by omega)) mk_X12_in ml_12_504 (Nat.le_of_ble_eq_true rfl) (fun x2 s1 hs1 => ?_)
  obtain ⟨bx2, ex2, zs1, cx2_1, -⟩ := pB hs1
  subst ex2
  subst zs1
  refine wa_if_eq o_X12_poke_29 (by decide) (fun h3 => ?_) (fun h3 => ?_)
  · replace h3 := bI_f (b := bx2) (rfl) h3
    have uh3_0 := iff_f cx2_1 h3
    refine wa_iconst (v := 1) (by decide) ?_
    refine wa_puti ck_12 fl_12_3 ly_84 (fun s4 hs4 => ?_)
    have Fs4 : Fm [209] [0] σ s4 := by rw [hs4]; exact Fm.si (Fm.rf [209] [0] σ) rfl
    refine wa_aload_n (i := 0) rfl rfl ?_
    refine wa_geti ck_12 fl_12_3 ly_84 ?_
    refine wa_rw (nxe_gi_si hs4) ?_
    refine wa_if_le o_X12_poke_42 (by decide) (fun h5 => ?_) (fun h5 => ?_)
    · refine wa_aload_n (i := 0) rfl rfl ?_
      refine wa_getr ck_12 fl_12_19 ly_84 rf_84_3 ?_
      refine wa_sipush (v := 256) (by decide) ?_
      refine wa_iload_n (i := 1) rfl rfl ?_
      refine wa_imul ?_
      refine wa_top (fun v6 hv6 => ?_)
      have tv6 := i_mulT hv6
      clear hv6
      refine wa_iload_n (i := 2) rfl rfl ?_
      refine wa_iadd ?_
      refine wa_top (fun v7 hv7 => ?_)
      have tv7 := i_addT hv7
      clear hv7
      refine wa_aload_n (i := 0) rfl rfl ?_
      refine wa_getr ck_12 fl_12_19 ly_84 rf_84_3 ?_
      refine wa_sipush (v := 256) (by decide) ?_
      refine wa_iload_n (i := 1) rfl rfl ?_
      refine wa_imul ?_
      refine wa_top (fun v8 hv8 => ?_)
      have tv8 := i_mulT hv8
      clear hv8
      refine wa_iload_n (i := 2) rfl rfl ?_
      refine wa_iadd ?_
      refine wa_top (fun v9 hv9 => ?_)
      have tv9 := i_addT hv9
      clear hv9
      refine wa_bald ly_209 (by ((try simp only [vp_in_iff, Int32.lt_iff_toInt_lt, Int32.le_iff_toInt_le, ← Int32.toInt_inj, Int32.reduceToInt, n_1, n_2, n_8, Int32.toNatClampNeg, Int64.lt_iff_toInt_lt, Int64.le_iff_toInt_le, ← Int64.toInt_inj, Int64.reduceToInt, Int32.toInt_toInt64, lg_cmp_ge, lg_cmp_le, lg_cmp_gt, lg_cmp_lt, lg_cmp_eq, Bool.false_eq_true, Bool.true_eq_false, reduceCtorEq, false_iff, true_iff, iff_true, iff_false, and_true, true_and, and_false, false_and, reduceIte, ite_true, ite_false, eq_self] at *)) <;> omega) ?_
      refine wa_iload_n (i := 3) rfl rfl ?_
      refine wa_ixor ?_
      refine wa_top (fun v10 hv10 => ?_)
      clear hv10
      refine wa_i2b ?_
      refine wa_top (fun v11 hv11 => ?_)
      clear hv11
      refine wa_bast ly_209 (by ((try simp only [vp_in_iff, Int32.lt_iff_toInt_lt, Int32.le_iff_toInt_le, ← Int32.toInt_inj, Int32.reduceToInt, n_1, n_2, n_8, Int32.toNatClampNeg, Int64.lt_iff_toInt_lt, Int64.le_iff_toInt_le, ← Int64.toInt_inj, Int64.reduceToInt, Int32.toInt_toInt64, lg_cmp_ge, lg_cmp_le, lg_cmp_gt, lg_cmp_lt, lg_cmp_eq, Bool.false_eq_true, Bool.true_eq_false, reduceCtorEq, false_iff, true_iff, iff_true, iff_false, and_true, true_and, and_false, false_and, reduceIte, ite_true, ite_false, eq_self] at *)) <;> omega) (fun s12 hs12 => ?_)
      have Fs12 : Fm [209] [0] σ s12 := by rw [hs12]; exact Fm.sy Fs4 rfl
      refine wa_aload_n (i := 0) rfl rfl ?_
      refine wa_iload_n (i := 1) rfl rfl ?_
      refine wa_iload_n (i := 2) rfl rfl ?_
      refine wa_Vi (d9 := d - 1) [.int _, .int _] [] (sp_X12_at G (d := d - 1) (by omega) s12 _ _ (by ((try simp only [vp_in_iff, Int32.lt_iff_toInt_lt, Int32.le_iff_toInt_le, ← Int32.toInt_inj, Int32.reduceToInt, n_1, n_2, n_8, Int32.toNatClampNeg, Int64.lt_iff_toInt_lt, Int64.le_iff_toInt_le, ← Int64.toInt_inj, Int64.reduceToInt, Int32.toInt_toInt64, lg_cmp_ge, lg_cmp_le, lg_cmp_gt, lg_cmp_lt, lg_cmp_eq, Bool.false_eq_true, Bool.true_eq_false, reduceCtorEq, false_iff, true_iff, iff_true, iff_false, and_true, true_and, and_false, false_and, reduceIte, ite_true, ite_false, eq_self] at *)) <;> omega) (by ((try simp only [vp_in_iff, Int32.lt_iff_toInt_lt, Int32.le_iff_toInt_le, ← Int32.toInt_inj, Int32.reduceToInt, n_1, n_2, n_8, Int32.toNatClampNeg, Int64.lt_iff_toInt_lt, Int64.le_iff_toInt_le, ← Int64.toInt_inj, Int64.reduceToInt, Int32.toInt_toInt64, lg_cmp_ge, lg_cmp_le, lg_cmp_gt, lg_cmp_lt, lg_cmp_eq, Bool.false_eq_true, Bool.true_eq_false, reduceCtorEq, false_iff, true_iff, iff_true, iff_false, and_true, true_and, and_false, false_and, reduceIte, ite_true, ite_false, eq_self] at *)) <;> omega)) (rfl) rfl rfl (zr (by omega)) mk_X12_at ly_84 ml_12_509 (Nat.le_of_ble_eq_true rfl) (fun x14 s13 hs13 => ?_)
      obtain ⟨zs13, -⟩ := pI hs13
      subst zs13
      refine wa_ireturn rfl rfl ?_
      exact ⟨_, rfl, Fs12, trivial⟩
    · refine wa_iconst (v := 0) (by decide) ?_
      refine wa_ireturn rfl rfl ?_
      exact ⟨_, rfl, Fs4, trivial⟩
  · replace h3 := bI_t (b := bx2) (rfl) h3
    have uh3_0 := iff_t cx2_1 h3
    refine wa_iload_n (i := 2) rfl rfl ?_
    refine wa_i2l ?_
    refine wa_lconst (v := 0) (by decide) ?_
    refine wa_ldc2 (v := (255)) (allW_in (kT_12 _ (List.mem_of_getElem? (i := 99) rfl)) rfl) ?_
    refine wa_Si (d9 := d - 1) [.long _, .long _, .long _] [.ref 84] (sp_X12_in G (d := d - 1) (by omega) σ _ _ _) (rfl) rfl rfl (zr (by omega)) mk_X12_in ml_12_504 (Nat.le_of_ble_eq_true rfl) (fun x16 s15 hs15 => ?_)
    obtain ⟨bx16, ex16, zs15, cx16_1, -⟩ := pB hs15
    subst ex16
    subst zs15
    refine wa_if_eq o_X12_poke_29 (by decide) (fun h17 => ?_) (fun h17 => ?_)
    · replace h17 := bI_f (b := bx16) (rfl) h17
      have uh17_0 := iff_f cx16_1 h17
      refine wa_iconst (v := 1) (by decide) ?_
      refine wa_puti ck_12 fl_12_3 ly_84 (fun s18 hs18 => ?_)
      have Fs18 : Fm [209] [0] σ s18 := by rw [hs18]; exact Fm.si (Fm.rf [209] [0] σ) rfl
      refine wa_aload_n (i := 0) rfl rfl ?_
      refine wa_geti ck_12 fl_12_3 ly_84 ?_
      refine wa_rw (nxe_gi_si hs18) ?_
      refine wa_if_le o_X12_poke_42 (by decide) (fun h19 => ?_) (fun h19 => ?_)
      · refine wa_aload_n (i := 0) rfl rfl ?_
        refine wa_getr ck_12 fl_12_19 ly_84 rf_84_3 ?_
        refine wa_sipush (v := 256) (by decide) ?_
        refine wa_iload_n (i := 1) rfl rfl ?_
        refine wa_imul ?_
        refine wa_top (fun v20 hv20 => ?_)
        have tv20 := i_mulT hv20
        clear hv20
        refine wa_iload_n (i := 2) rfl rfl ?_
        refine wa_iadd ?_
        refine wa_top (fun v21 hv21 => ?_)
        have tv21 := i_addT hv21
        clear hv21
        refine wa_aload_n (i := 0) rfl rfl ?_
        refine wa_getr ck_12 fl_12_19 ly_84 rf_84_3 ?_
        refine wa_sipush (v := 256) (by decide) ?_
        refine wa_iload_n (i := 1) rfl rfl ?_
        refine wa_imul ?_
        refine wa_top (fun v22 hv22 => ?_)
        have tv22 := i_mulT hv22
        clear hv22
        refine wa_iload_n (i := 2) rfl rfl ?_
        refine wa_iadd ?_
        refine wa_top (fun v23 hv23 => ?_)
        have tv23 := i_addT hv23
        clear hv23
        refine wa_bald ly_209 (by ((try simp only [vp_in_iff, Int32.lt_iff_toInt_lt, Int32.le_iff_toInt_le, ← Int32.toInt_inj, Int32.reduceToInt, n_1, n_2, n_8, Int32.toNatClampNeg, Int64.lt_iff_toInt_lt, Int64.le_iff_toInt_le, ← Int64.toInt_inj, Int64.reduceToInt, Int32.toInt_toInt64, lg_cmp_ge, lg_cmp_le, lg_cmp_gt, lg_cmp_lt, lg_cmp_eq, Bool.false_eq_true, Bool.true_eq_false, reduceCtorEq, false_iff, true_iff, iff_true, iff_false, and_true, true_and, and_false, false_and, reduceIte, ite_true, ite_false, eq_self] at *)) <;> omega) ?_
        refine wa_iload_n (i := 3) rfl rfl ?_
        refine wa_ixor ?_
        refine wa_top (fun v24 hv24 => ?_)
        clear hv24
        refine wa_i2b ?_
        refine wa_top (fun v25 hv25 => ?_)
        clear hv25
        refine wa_bast ly_209 (by ((try simp only [vp_in_iff, Int32.lt_iff_toInt_lt, Int32.le_iff_toInt_le, ← Int32.toInt_inj, Int32.reduceToInt, n_1, n_2, n_8, Int32.toNatClampNeg, Int64.lt_iff_toInt_lt, Int64.le_iff_toInt_le, ← Int64.toInt_inj, Int64.reduceToInt, Int32.toInt_toInt64, lg_cmp_ge, lg_cmp_le, lg_cmp_gt, lg_cmp_lt, lg_cmp_eq, Bool.false_eq_true, Bool.true_eq_false, reduceCtorEq, false_iff, true_iff, iff_true, iff_false, and_true, true_and, and_false, false_and, reduceIte, ite_true, ite_false, eq_self] at *)) <;> omega) (fun s26 hs26 => ?_)
        have Fs26 : Fm [209] [0] σ s26 := by rw [hs26]; exact Fm.sy Fs18 rfl
        refine wa_aload_n (i := 0) rfl rfl ?_
        refine wa_iload_n (i := 1) rfl rfl ?_
        refine wa_iload_n (i := 2) rfl rfl ?_
        refine wa_Vi (d9 := d - 1) [.int _, .int _] [] (sp_X12_at G (d := d - 1) (by omega) s26 _ _ (by ((try simp only [vp_in_iff, Int32.lt_iff_toInt_lt, Int32.le_iff_toInt_le, ← Int32.toInt_inj, Int32.reduceToInt, n_1, n_2, n_8, Int32.toNatClampNeg, Int64.lt_iff_toInt_lt, Int64.le_iff_toInt_le, ← Int64.toInt_inj, Int64.reduceToInt, Int32.toInt_toInt64, lg_cmp_ge, lg_cmp_le, lg_cmp_gt, lg_cmp_lt, lg_cmp_eq, Bool.false_eq_true, Bool.true_eq_false, reduceCtorEq, false_iff, true_iff, iff_true, iff_false, and_true, true_and, and_false, false_and, reduceIte, ite_true, ite_false, eq_self] at *)) <;> omega) (by ((try simp only [vp_in_iff, Int32.lt_iff_toInt_lt, Int32.le_iff_toInt_le, ← Int32.toInt_inj, Int32.reduceToInt, n_1, n_2, n_8, Int32.toNatClampNeg, Int64.lt_iff_toInt_lt, Int64.le_iff_toInt_le, ← Int64.toInt_inj, Int64.reduceToInt, Int32.toInt_toInt64, lg_cmp_ge, lg_cmp_le, lg_cmp_gt, lg_cmp_lt, lg_cmp_eq, Bool.false_eq_true, Bool.true_eq_false, reduceCtorEq, false_iff, true_iff, iff_true, iff_false, and_true, true_and, and_false, false_and, reduceIte, ite_true, ite_false, eq_self] at *)) <;> omega)) (rfl) rfl rfl (zr (by omega)) mk_X12_at ly_84 ml_12_509 (Nat.le_of_ble_eq_true rfl) (fun x28 s27 hs27 => ?_)
        obtain ⟨zs27, -⟩ := pI hs27
        subst zs27
        refine wa_ireturn rfl rfl ?_
        exact ⟨_, rfl, Fs26, trivial⟩
      · refine wa_iconst (v := 0) (by decide) ?_
        refine wa_ireturn rfl rfl ?_
        exact ⟨_, rfl, Fs18, trivial⟩
    · replace h17 := bI_t (b := bx16) (rfl) h17
      have uh17_0 := iff_t cx16_1 h17
      refine wa_iconst (v := 0) (by decide) ?_
      refine wa_goto o_X12_poke_30 (by decide) ?_
      refine wa_puti ck_12 fl_12_3 ly_84 (fun s29 hs29 => ?_)
      have Fs29 : Fm [209] [0] σ s29 := by rw [hs29]; exact Fm.si (Fm.rf [209] [0] σ) rfl
      refine wa_aload_n (i := 0) rfl rfl ?_
      refine wa_geti ck_12 fl_12_3 ly_84 ?_
      refine wa_rw (nxe_gi_si hs29) ?_
      refine wa_if_le o_X12_poke_42 (by decide) (fun h30 => ?_) (fun h30 => ?_)
      · refine wa_aload_n (i := 0) rfl rfl ?_
        refine wa_getr ck_12 fl_12_19 ly_84 rf_84_3 ?_
        refine wa_sipush (v := 256) (by decide) ?_
        refine wa_iload_n (i := 1) rfl rfl ?_
        refine wa_imul ?_
        refine wa_top (fun v31 hv31 => ?_)
        have tv31 := i_mulT hv31
        clear hv31
        refine wa_iload_n (i := 2) rfl rfl ?_
        refine wa_iadd ?_
        refine wa_top (fun v32 hv32 => ?_)
        have tv32 := i_addT hv32
        clear hv32
        refine wa_aload_n (i := 0) rfl rfl ?_
        refine wa_getr ck_12 fl_12_19 ly_84 rf_84_3 ?_
        refine wa_sipush (v := 256) (by decide) ?_
        refine wa_iload_n (i := 1) rfl rfl ?_
        refine wa_imul ?_
        refine wa_top (fun v33 hv33 => ?_)
        have tv33 := i_mulT hv33
        clear hv33
        refine wa_iload_n (i := 2) rfl rfl ?_
        refine wa_iadd ?_
        refine wa_top (fun v34 hv34 => ?_)
        have tv34 := i_addT hv34
        clear hv34
        refine wa_bald ly_209 (by ((try simp only [vp_in_iff, Int32.lt_iff_toInt_lt, Int32.le_iff_toInt_le, ← Int32.toInt_inj, Int32.reduceToInt, n_1, n_2, n_8, Int32.toNatClampNeg, Int64.lt_iff_toInt_lt, Int64.le_iff_toInt_le, ← Int64.toInt_inj, Int64.reduceToInt, Int32.toInt_toInt64, lg_cmp_ge, lg_cmp_le, lg_cmp_gt, lg_cmp_lt, lg_cmp_eq, Bool.false_eq_true, Bool.true_eq_false, reduceCtorEq, false_iff, true_iff, iff_true, iff_false, and_true, true_and, and_false, false_and, reduceIte, ite_true, ite_false, eq_self] at *)) <;> omega) ?_
        refine wa_iload_n (i := 3) rfl rfl ?_
        refine wa_ixor ?_
        refine wa_top (fun v35 hv35 => ?_)
        clear hv35
        refine wa_i2b ?_
        refine wa_top (fun v36 hv36 => ?_)
        clear hv36
        refine wa_bast ly_209 (by ((try simp only [vp_in_iff, Int32.lt_iff_toInt_lt, Int32.le_iff_toInt_le, ← Int32.toInt_inj, Int32.reduceToInt, n_1, n_2, n_8, Int32.toNatClampNeg, Int64.lt_iff_toInt_lt, Int64.le_iff_toInt_le, ← Int64.toInt_inj, Int64.reduceToInt, Int32.toInt_toInt64, lg_cmp_ge, lg_cmp_le, lg_cmp_gt, lg_cmp_lt, lg_cmp_eq, Bool.false_eq_true, Bool.true_eq_false, reduceCtorEq, false_iff, true_iff, iff_true, iff_false, and_true, true_and, and_false, false_and, reduceIte, ite_true, ite_false, eq_self] at *)) <;> omega) (fun s37 hs37 => ?_)
        have Fs37 : Fm [209] [0] σ s37 := by rw [hs37]; exact Fm.sy Fs29 rfl
        refine wa_aload_n (i := 0) rfl rfl ?_
        refine wa_iload_n (i := 1) rfl rfl ?_
        refine wa_iload_n (i := 2) rfl rfl ?_
        refine wa_Vi (d9 := d - 1) [.int _, .int _] [] (sp_X12_at G (d := d - 1) (by omega) s37 _ _ (by ((try simp only [vp_in_iff, Int32.lt_iff_toInt_lt, Int32.le_iff_toInt_le, ← Int32.toInt_inj, Int32.reduceToInt, n_1, n_2, n_8, Int32.toNatClampNeg, Int64.lt_iff_toInt_lt, Int64.le_iff_toInt_le, ← Int64.toInt_inj, Int64.reduceToInt, Int32.toInt_toInt64, lg_cmp_ge, lg_cmp_le, lg_cmp_gt, lg_cmp_lt, lg_cmp_eq, Bool.false_eq_true, Bool.true_eq_false, reduceCtorEq, false_iff, true_iff, iff_true, iff_false, and_true, true_and, and_false, false_and, reduceIte, ite_true, ite_false, eq_self] at *)) <;> omega) (by ((try simp only [vp_in_iff, Int32.lt_iff_toInt_lt, Int32.le_iff_toInt_le, ← Int32.toInt_inj, Int32.reduceToInt, n_1, n_2, n_8, Int32.toNatClampNeg, Int64.lt_iff_toInt_lt, Int64.le_iff_toInt_le, ← Int64.toInt_inj, Int64.reduceToInt, Int32.toInt_toInt64, lg_cmp_ge, lg_cmp_le, lg_cmp_gt, lg_cmp_lt, lg_cmp_eq, Bool.false_eq_true, Bool.true_eq_false, reduceCtorEq, false_iff, true_iff, iff_true, iff_false, and_true, true_and, and_false, false_and, reduceIte, ite_true, ite_false, eq_self] at *)) <;> omega)) (rfl) rfl rfl (zr (by omega)) mk_X12_at ly_84 ml_12_509 (Nat.le_of_ble_eq_true rfl) (fun x39 s38 hs38 => ?_)
        obtain ⟨zs38, -⟩ := pI hs38
        subst zs38
        refine wa_ireturn rfl rfl ?_
        exact ⟨_, rfl, Fs37, trivial⟩
      · refine wa_iconst (v := 0) (by decide) ?_
        refine wa_ireturn rfl rfl ?_
        exact ⟨_, rfl, Fs29, trivial⟩
set_option maxHeartbeats 4000000 in
theorem sp_X12_fault (G : kG9) {d : Nat} (hd : 0 ≤ d) (σ : St) : Ct G M_X12_fault d [.ref 84] σ (fun r σ' => ∃ x : Int32, r = some (.int x) ∧ Fm [] [0] σ σ' ∧ True) := by
  refine wa_start (by decide) rfl (Nat.le_of_ble_eq_true rfl) (lv := [(0, .ref 84)]) rfl o_X12_fault_0 rfl ?_
  refine wa_aload_n (i := 0) rfl rfl ?_
  refine wa_iconst (v := 0) (by decide) ?_
  refine wa_puti ck_12 fl_12_3 ly_84 (fun s1 hs1 => ?_)
  have Fs1 : Fm [] [0] σ s1 := by rw [hs1]; exact Fm.si (Fm.rf [] [0] σ) rfl
  refine wa_aload_n (i := 0) rfl rfl ?_
  refine wa_geti ck_12 fl_12_836 ly_84 ?_
  refine wa_rw (nxk_gi_si hs1 (by decide)) ?_
  refine wa_ireturn rfl rfl ?_
  exact ⟨_, rfl, Fs1, trivial⟩
set_option maxHeartbeats 4000000 in
theorem sp_X12_asks (G : kG9) {d : Nat} (hd : 0 ≤ d) (σ : St) : Ct G M_X12_asks d [.ref 84] σ (fun r σ' => ∃ x : Bool, r = some (.int (bI x)) ∧ Fm [] [0] σ σ' ∧ True) := by
  refine wa_start (by decide) rfl (Nat.le_of_ble_eq_true rfl) (lv := [(0, .ref 84)]) rfl o_X12_asks_0 rfl ?_
  refine wa_aload_n (i := 0) rfl rfl ?_
  refine wa_iconst (v := 0) (by decide) ?_
  refine wa_puti ck_12 fl_12_3 ly_84 (fun s1 hs1 => ?_)
  have Fs1 : Fm [] [0] σ s1 := by rw [hs1]; exact Fm.si (Fm.rf [] [0] σ) rfl
  refine wa_aload_n (i := 0) rfl rfl ?_
  refine wa_getz ck_12 fl_12_488 ly_84 ?_
  refine wa_rw (congrArg bI (nx_gb_si hs1)) ?_
  refine wa_if_ne o_X12_asks_16 (by decide) (fun h2 => ?_) (fun h2 => ?_)
  · replace h2 := bI_t (b := (gb σ 84 5)) (rfl) h2
    refine wa_iconst (v := 0) (by decide) ?_
    refine wa_zreturn false (rfl) rfl rfl ?_
    exact ⟨_, rfl, Fs1, trivial⟩
  · replace h2 := bI_f (b := (gb σ 84 5)) (rfl) h2
    refine wa_iconst (v := 1) (by decide) ?_
    refine wa_goto o_X12_asks_17 (by decide) ?_
    refine wa_zreturn true (rfl) rfl rfl ?_
    exact ⟨_, rfl, Fs1, trivial⟩
set_option maxHeartbeats 4000000 in
theorem sp_X12_isClaim (G : kG9) {d : Nat} (hd : 1 ≤ d) (σ : St) (a0 : Int32) (r1 : 0 ≤ (gi σ 84 33).toInt ∧ (gi σ 84 33).toInt ≤ 24) : Ct G M_X12_isClaim d [.ref 84, .int a0] σ (fun r σ' => ∃ x : Bool, r = some (.int (bI x)) ∧ σ = σ' ∧ (x = true ↔ 0 ≤ a0.toInt ∧ a0.toInt < (gi σ 84 33).toInt) ∧ True) := by
  refine wa_start (by decide) rfl (Nat.le_of_ble_eq_true rfl) (lv := [(0, .ref 84), (1, .int a0)]) rfl o_X12_isClaim_0 rfl ?_
  have ua0 := Int32.toInt_lt a0
  have wa0 := Int32.le_toInt a0
  refine wa_iload_n (i := 1) rfl rfl ?_
  refine wa_i2l ?_
  refine wa_lconst (v := 0) (by decide) ?_
  refine wa_aload_n (i := 0) rfl rfl ?_
  refine wa_geti ck_12 fl_12_818 ly_84 ?_
  refine wa_iconst (v := 1) (by decide) ?_
  refine wa_isub ?_
  refine wa_top (fun v1 hv1 => ?_)
  have tv1 := i_subT hv1
  clear hv1
  refine wa_i2l ?_
  refine wa_Si (d9 := d - 1) [.long _, .long _, .long _] [] (sp_X12_in G (d := d - 1) (by omega) σ _ _ _) (rfl) rfl rfl (zr (by omega)) mk_X12_in ml_12_504 (Nat.le_of_ble_eq_true rfl) (fun x3 s2 hs2 => ?_)
  obtain ⟨bx3, ex3, zs2, cx3_1, -⟩ := pB hs2
  subst ex3
  subst zs2
  refine wa_zreturn bx3 (rfl) rfl rfl ?_
  exact ⟨_, rfl, rfl, (by refine Iff.trans (by assumption) ⟨fun h => ?_, fun h => ?_⟩ <;> ((try simp only [vp_in_iff, Int32.lt_iff_toInt_lt, Int32.le_iff_toInt_le, ← Int32.toInt_inj, Int32.reduceToInt, n_1, n_2, n_8, Int32.toNatClampNeg, Int64.lt_iff_toInt_lt, Int64.le_iff_toInt_le, ← Int64.toInt_inj, Int64.reduceToInt, Int32.toInt_toInt64, lg_cmp_ge, lg_cmp_le, lg_cmp_gt, lg_cmp_lt, lg_cmp_eq, Bool.false_eq_true, Bool.true_eq_false, reduceCtorEq, false_iff, true_iff, iff_true, iff_false, and_true, true_and, and_false, false_and, reduceIte, ite_true, ite_false, eq_self] at *)) <;> omega), trivial⟩
set_option maxHeartbeats 4000000 in
theorem sp_X12_ways (G : kG9) {d : Nat} (hd : 0 ≤ d) (σ : St) (a0 : Int32) (p1 : 0 ≤ a0.toInt ∧ a0.toInt < 6760) : Ct G M_X12_ways d [.ref 84, .int a0] σ (fun r σ' => ∃ x : Int32, r = some (.int x) ∧ σ = σ' ∧ True) := by
  refine wa_start (by decide) rfl (Nat.le_of_ble_eq_true rfl) (lv := [(0, .ref 84), (1, .int a0)]) rfl o_X12_ways_0 rfl ?_
  have ua0 := Int32.toInt_lt a0
  have wa0 := Int32.le_toInt a0
  refine wa_aload_n (i := 0) rfl rfl ?_
  refine wa_getr ck_12 fl_12_156 ly_84 rf_84_57 ?_
  refine wa_iload_n (i := 1) rfl rfl ?_
  refine wa_iald ly_182 (by ((try simp only [vp_in_iff, Int32.lt_iff_toInt_lt, Int32.le_iff_toInt_le, ← Int32.toInt_inj, Int32.reduceToInt, n_1, n_2, n_8, Int32.toNatClampNeg, Int64.lt_iff_toInt_lt, Int64.le_iff_toInt_le, ← Int64.toInt_inj, Int64.reduceToInt, Int32.toInt_toInt64, lg_cmp_ge, lg_cmp_le, lg_cmp_gt, lg_cmp_lt, lg_cmp_eq, Bool.false_eq_true, Bool.true_eq_false, reduceCtorEq, false_iff, true_iff, iff_true, iff_false, and_true, true_and, and_false, false_and, reduceIte, ite_true, ite_false, eq_self] at *)) <;> omega) ?_
  refine wa_istore_nD (lv' := [(2, .int (gi σ 182 (a0).toNatClampNeg)), (0, .ref 84), (1, .int a0)]) (i := 2) rfl (by decide) rfl ?_
  refine wa_iload_n (i := 2) rfl rfl ?_
  refine wa_bipush (v := 8) (by decide) ?_
  refine wa_icmp_eq o_X12_ways_25 (by decide) (fun h1 => ?_) (fun h1 => ?_)
  · refine wa_iconst (v := 2) (by decide) ?_
    refine wa_goto o_X12_ways_51 (by decide) ?_
    refine wa_ireturn rfl rfl ?_
    exact ⟨_, rfl, rfl, trivial⟩
  · refine wa_iload_n (i := 2) rfl rfl ?_
    refine wa_bipush (v := 9) (by decide) ?_
    refine wa_icmp_eq o_X12_ways_25 (by decide) (fun h2 => ?_) (fun h2 => ?_)
    · refine wa_iconst (v := 2) (by decide) ?_
      refine wa_goto o_X12_ways_51 (by decide) ?_
      refine wa_ireturn rfl rfl ?_
      exact ⟨_, rfl, rfl, trivial⟩
    · refine wa_iload_n (i := 2) rfl rfl ?_
      refine wa_bipush (v := 10) (by decide) ?_
      refine wa_icmp_ne o_X12_ways_29 (by decide) (fun h3 => ?_) (fun h3 => ?_)
      · refine wa_iload_n (i := 2) rfl rfl ?_
        refine wa_bipush (v := 11) (by decide) ?_
        refine wa_icmp_eq o_X12_ways_41 (by decide) (fun h4 => ?_) (fun h4 => ?_)
        · refine wa_aload_n (i := 0) rfl rfl ?_
          refine wa_getr ck_12 fl_12_162 ly_84 rf_84_59 ?_
          refine wa_iload_n (i := 1) rfl rfl ?_
          refine wa_iald ly_180 (by ((try simp only [vp_in_iff, Int32.lt_iff_toInt_lt, Int32.le_iff_toInt_le, ← Int32.toInt_inj, Int32.reduceToInt, n_1, n_2, n_8, Int32.toNatClampNeg, Int64.lt_iff_toInt_lt, Int64.le_iff_toInt_le, ← Int64.toInt_inj, Int64.reduceToInt, Int32.toInt_toInt64, lg_cmp_ge, lg_cmp_le, lg_cmp_gt, lg_cmp_lt, lg_cmp_eq, Bool.false_eq_true, Bool.true_eq_false, reduceCtorEq, false_iff, true_iff, iff_true, iff_false, and_true, true_and, and_false, false_and, reduceIte, ite_true, ite_false, eq_self] at *)) <;> omega) ?_
          refine wa_goto o_X12_ways_51 (by decide) ?_
          refine wa_ireturn rfl rfl ?_
          exact ⟨_, rfl, rfl, trivial⟩
        · refine wa_iload_n (i := 2) rfl rfl ?_
          refine wa_bipush (v := 12) (by decide) ?_
          refine wa_icmp_ne o_X12_ways_50 (by decide) (fun h5 => ?_) (fun h5 => ?_)
          · refine wa_iconst (v := 1) (by decide) ?_
            refine wa_ireturn rfl rfl ?_
            exact ⟨_, rfl, rfl, trivial⟩
          · refine wa_aload_n (i := 0) rfl rfl ?_
            refine wa_getr ck_12 fl_12_162 ly_84 rf_84_59 ?_
            refine wa_iload_n (i := 1) rfl rfl ?_
            refine wa_iald ly_180 (by ((try simp only [vp_in_iff, Int32.lt_iff_toInt_lt, Int32.le_iff_toInt_le, ← Int32.toInt_inj, Int32.reduceToInt, n_1, n_2, n_8, Int32.toNatClampNeg, Int64.lt_iff_toInt_lt, Int64.le_iff_toInt_le, ← Int64.toInt_inj, Int64.reduceToInt, Int32.toInt_toInt64, lg_cmp_ge, lg_cmp_le, lg_cmp_gt, lg_cmp_lt, lg_cmp_eq, Bool.false_eq_true, Bool.true_eq_false, reduceCtorEq, false_iff, true_iff, iff_true, iff_false, and_true, true_and, and_false, false_and, reduceIte, ite_true, ite_false, eq_self] at *)) <;> omega) ?_
            refine wa_goto o_X12_ways_51 (by decide) ?_
            refine wa_ireturn rfl rfl ?_
            exact ⟨_, rfl, rfl, trivial⟩
      · refine wa_iconst (v := 2) (by decide) ?_
        refine wa_goto o_X12_ways_51 (by decide) ?_
        refine wa_ireturn rfl rfl ?_
        exact ⟨_, rfl, rfl, trivial⟩
set_option maxHeartbeats 4000000 in
theorem sp_X12_casesOf (G : kG9) {d : Nat} (hd : 1 ≤ d) (σ : St) (a0 : Int32) (p1 : 0 ≤ a0.toInt ∧ a0.toInt < 26) (A_183 : AR ap_183 σ 183) (A_186 : AR ap_186 σ 186) (A_187 : AR ap_187 σ 187) : Ct G M_X12_casesOf d [.ref 84, .int a0] σ (fun r σ' => ∃ x : Int64, r = some (.long x) ∧ σ = σ' ∧ True) := by
  refine wa_start (by decide) rfl (Nat.le_of_ble_eq_true rfl) (lv := [(0, .ref 84), (1, .int a0)]) rfl o_X12_casesOf_0 rfl ?_
  have ua0 := Int32.toInt_lt a0
  have wa0 := Int32.le_toInt a0
  refine wa_lconst (v := 0) (by decide) ?_
  refine wa_lstore_nD (lv' := [(2, .long 0), (0, .ref 84), (1, .int a0)]) (i := 2) rfl (by decide) rfl ?_
  refine wa_bipush (v := 61) (by decide) ?_
  refine wa_iload_n (i := 1) rfl rfl ?_
  refine wa_imul ?_
  refine wa_top (fun v1 hv1 => ?_)
  have tv1 := i_mulT hv1
  clear hv1
  refine wa_istoreD (lv' := [(4, .int v1), (2, .long 0), (0, .ref 84), (1, .int a0)]) (by decide) rfl ?_
  refine wa_pick [2, 3, 1, 0] rfl ?_
  have hi3 : ∀ (n9_8 : Nat) (l2 : Int64) (l4 : Int32), ((61 * a0.toInt ≤ l4.toInt) ∧ (True)) → (2147483647 - l4.toInt).toNat = n9_8 → WA G M_X12_casesOf (ZM G M_X12_casesOf d (fun r σ' => ∃ x : Int64, r = some (.long x) ∧ σ = σ' ∧ True)) B_X12_casesOf_8 [(0, .ref 84), (1, .int a0), (2, .long l2), (4, .int l4)] [] σ := by
    intro n9_8
    induction n9_8 using Nat.strongRecOn with
    | _ n9_8 ih2 =>
      intro l2 l4  i9 m9_8
      obtain ⟨jhi3_0, -⟩ := i9
      have ul4 := Int32.toInt_lt l4
      have wl4 := Int32.le_toInt l4
      refine wa_iload rfl ?_
      refine wa_bipush (v := 61) (by decide) ?_
      refine wa_iload_n (i := 1) rfl rfl ?_
      refine wa_imul ?_
      refine wa_top (fun v4 hv4 => ?_)
      have tv4 := i_mulT hv4
      clear hv4
      refine wa_aload_n (i := 0) rfl rfl ?_
      refine wa_getr ck_12 fl_12_153 ly_84 rf_84_56 ?_
      refine wa_iload_n (i := 1) rfl rfl ?_
      refine wa_iald ly_183 (by ((try simp only [vp_in_iff, Int32.lt_iff_toInt_lt, Int32.le_iff_toInt_le, ← Int32.toInt_inj, Int32.reduceToInt, n_1, n_2, n_8, Int32.toNatClampNeg, Int64.lt_iff_toInt_lt, Int64.le_iff_toInt_le, ← Int64.toInt_inj, Int64.reduceToInt, Int32.toInt_toInt64, lg_cmp_ge, lg_cmp_le, lg_cmp_gt, lg_cmp_lt, lg_cmp_eq, Bool.false_eq_true, Bool.true_eq_false, reduceCtorEq, false_iff, true_iff, iff_true, iff_false, and_true, true_and, and_false, false_and, reduceIte, ite_true, ite_false, eq_self] at *)) <;> omega) ?_
      refine wa_top (fun v5 hv5 => ?_)
      have rv5 : 0 ≤ v5.toInt ∧ v5.toInt ≤ 61 := by rw [← hv5]; exact ar_at A_183 _
      clear hv5
      refine wa_iadd ?_
      refine wa_top (fun v6 hv6 => ?_)
      have tv6 := i_addT hv6
      clear hv6
      refine wa_icmp_ge o_X12_casesOf_97 (by decide) (fun h7 => ?_) (fun h7 => ?_)
      · refine wa_lload_n (i := 2) rfl rfl ?_
        refine wa_lreturn rfl rfl ?_
        exact ⟨_, rfl, rfl, trivial⟩
      · have mh7 := nle_mx h7
        refine wa_lconst (v := 1) (by decide) ?_
        refine wa_lstoreD (lv' := [(5, .long 1), (0, .ref 84), (1, .int a0), (2, .long l2), (4, .int l4)]) (by decide) rfl ?_
        refine wa_aload_n (i := 0) rfl rfl ?_
        refine wa_getr ck_12 fl_12_141 ly_84 rf_84_52 ?_
        refine wa_iload rfl ?_
        refine wa_iald ly_187 (by ((try simp only [vp_in_iff, Int32.lt_iff_toInt_lt, Int32.le_iff_toInt_le, ← Int32.toInt_inj, Int32.reduceToInt, n_1, n_2, n_8, Int32.toNatClampNeg, Int64.lt_iff_toInt_lt, Int64.le_iff_toInt_le, ← Int64.toInt_inj, Int64.reduceToInt, Int32.toInt_toInt64, lg_cmp_ge, lg_cmp_le, lg_cmp_gt, lg_cmp_lt, lg_cmp_eq, Bool.false_eq_true, Bool.true_eq_false, reduceCtorEq, false_iff, true_iff, iff_true, iff_false, and_true, true_and, and_false, false_and, reduceIte, ite_true, ite_false, eq_self] at *)) <;> omega) ?_
        refine wa_top (fun v8 hv8 => ?_)
        have rv8 : 0 ≤ v8.toInt ∧ v8.toInt ≤ 260 := by rw [← hv8]; exact ar_at A_187 _
        clear hv8
        refine wa_istoreD (lv' := [(7, .int v8), (5, .long 1), (0, .ref 84), (1, .int a0), (2, .long l2), (4, .int l4)]) (by decide) rfl ?_
        refine wa_pick [2, 3, 4, 5, 1, 0] rfl ?_
        have hi10 : ∀ (n9_36 : Nat) (l5 : Int64) (l7 : Int32), ((0 ≤ l7.toInt) ∧ (True)) → (2147483647 - l7.toInt).toNat = n9_36 → WA G M_X12_casesOf (ZM G M_X12_casesOf d (fun r σ' => ∃ x : Int64, r = some (.long x) ∧ σ = σ' ∧ True)) B_X12_casesOf_36 [(0, .ref 84), (1, .int a0), (2, .long l2), (4, .int l4), (5, .long l5), (7, .int l7)] [] σ := by
          intro n9_36
          induction n9_36 using Nat.strongRecOn with
          | _ n9_36 ih9 =>
            intro l5 l7  i9 m9_36
            obtain ⟨jhi10_0, -⟩ := i9
            have ul7 := Int32.toInt_lt l7
            have wl7 := Int32.le_toInt l7
            refine wa_iload rfl ?_
            refine wa_aload_n (i := 0) rfl rfl ?_
            refine wa_getr ck_12 fl_12_144 ly_84 rf_84_53 ?_
            refine wa_iload rfl ?_
            refine wa_iald ly_186 (by ((try simp only [vp_in_iff, Int32.lt_iff_toInt_lt, Int32.le_iff_toInt_le, ← Int32.toInt_inj, Int32.reduceToInt, n_1, n_2, n_8, Int32.toNatClampNeg, Int64.lt_iff_toInt_lt, Int64.le_iff_toInt_le, ← Int64.toInt_inj, Int64.reduceToInt, Int32.toInt_toInt64, lg_cmp_ge, lg_cmp_le, lg_cmp_gt, lg_cmp_lt, lg_cmp_eq, Bool.false_eq_true, Bool.true_eq_false, reduceCtorEq, false_iff, true_iff, iff_true, iff_false, and_true, true_and, and_false, false_and, reduceIte, ite_true, ite_false, eq_self] at *)) <;> omega) ?_
            refine wa_top (fun v11 hv11 => ?_)
            have rv11 : 0 ≤ v11.toInt ∧ v11.toInt ≤ 260 := by rw [← hv11]; exact ar_at A_186 _
            clear hv11
            refine wa_icmp_ge o_X12_casesOf_86 (by decide) (fun h12 => ?_) (fun h12 => ?_)
            · refine wa_lload_n (i := 2) rfl rfl ?_
              refine wa_lload rfl ?_
              refine wa_ladd ?_
              refine wa_topl (fun v13 hv13 => ?_)
              have tv13 := a_l_remU hv13
              clear hv13
              refine wa_lstore_nD (lv' := [(2, .long v13), (0, .ref 84), (1, .int a0), (4, .int l4), (5, .long l5), (7, .int l7)]) (i := 2) rfl (by decide) rfl ?_
              refine wa_iinc (v := (1)) (lv' := fun y14 => [(4, .int y14), (2, .long v13), (0, .ref 84), (1, .int a0), (5, .long l5), (7, .int l7)]) (by decide) rfl (by decide) (fun _ => rfl) (fun y14 hy14 => ?_)
              have ty14 := i_addT hy14.symm
              clear hy14
              refine wa_goto o_X12_casesOf_8 (by decide) ?_
              refine wa_pick [2, 3, 1, 0] rfl ?_
              exact ih2 _ (by ((try simp only [vp_in_iff, Int32.lt_iff_toInt_lt, Int32.le_iff_toInt_le, ← Int32.toInt_inj, Int32.reduceToInt, n_1, n_2, n_8, Int32.toNatClampNeg, Int64.lt_iff_toInt_lt, Int64.le_iff_toInt_le, ← Int64.toInt_inj, Int64.reduceToInt, Int32.toInt_toInt64, lg_cmp_ge, lg_cmp_le, lg_cmp_gt, lg_cmp_lt, lg_cmp_eq, Bool.false_eq_true, Bool.true_eq_false, reduceCtorEq, false_iff, true_iff, iff_true, iff_false, and_true, true_and, and_false, false_and, reduceIte, ite_true, ite_false, eq_self] at *)) <;> omega) _ _ ⟨(by ((try simp only [vp_in_iff, Int32.lt_iff_toInt_lt, Int32.le_iff_toInt_le, ← Int32.toInt_inj, Int32.reduceToInt, n_1, n_2, n_8, Int32.toNatClampNeg, Int64.lt_iff_toInt_lt, Int64.le_iff_toInt_le, ← Int64.toInt_inj, Int64.reduceToInt, Int32.toInt_toInt64, lg_cmp_ge, lg_cmp_le, lg_cmp_gt, lg_cmp_lt, lg_cmp_eq, Bool.false_eq_true, Bool.true_eq_false, reduceCtorEq, false_iff, true_iff, iff_true, iff_false, and_true, true_and, and_false, false_and, reduceIte, ite_true, ite_false, eq_self] at *)) <;> omega), trivial⟩ rfl
            · have mh12 := nle_mx h12
              refine wa_lload rfl ?_
              refine wa_ldc2 (v := (64)) (allW_in (kT_13 _ (List.mem_of_getElem? (i := 63) rfl)) rfl) ?_
              refine wa_lcmp ?_
              refine wa_top (fun v15 hv15 => ?_)
              have tv15 := i_cmpT hv15
              clear hv15
              refine wa_if_le o_X12_casesOf_62 (by decide) (fun h16 => ?_) (fun h16 => ?_)
              · refine wa_lload rfl ?_
                refine wa_aload_n (i := 0) rfl rfl ?_
                refine wa_sipush (v := 260) (by decide) ?_
                refine wa_iload_n (i := 1) rfl rfl ?_
                refine wa_imul ?_
                refine wa_top (fun v17 hv17 => ?_)
                have tv17 := i_mulT hv17
                clear hv17
                refine wa_iload rfl ?_
                refine wa_iadd ?_
                refine wa_top (fun v18 hv18 => ?_)
                have tv18 := i_addT hv18
                clear hv18
                refine wa_Vi (d9 := d - 1) [.int _] [.long l5] (sp_X12_ways G (d := d - 1) (by omega) σ _ (by ((try simp only [vp_in_iff, Int32.lt_iff_toInt_lt, Int32.le_iff_toInt_le, ← Int32.toInt_inj, Int32.reduceToInt, n_1, n_2, n_8, Int32.toNatClampNeg, Int64.lt_iff_toInt_lt, Int64.le_iff_toInt_le, ← Int64.toInt_inj, Int64.reduceToInt, Int32.toInt_toInt64, lg_cmp_ge, lg_cmp_le, lg_cmp_gt, lg_cmp_lt, lg_cmp_eq, Bool.false_eq_true, Bool.true_eq_false, reduceCtorEq, false_iff, true_iff, iff_true, iff_false, and_true, true_and, and_false, false_and, reduceIte, ite_true, ite_false, eq_self] at *)) <;> omega)) (rfl) rfl rfl (zr (by omega)) mk_X12_ways ly_84 ml_12_800 (Nat.le_of_ble_eq_true rfl) (fun x20 s19 hs19 => ?_)
                obtain ⟨zs19, -⟩ := pI hs19
                subst zs19
                refine wa_i2l ?_
                refine wa_lmul ?_
                refine wa_topl (fun v21 hv21 => ?_)
                have tv21 := m_l_remU hv21
                clear hv21
                refine wa_lstoreD (lv' := [(5, .long v21), (0, .ref 84), (1, .int a0), (2, .long l2), (4, .int l4), (7, .int l7)]) (by decide) rfl ?_
                refine wa_iinc (v := (1)) (lv' := fun y22 => [(7, .int y22), (5, .long v21), (0, .ref 84), (1, .int a0), (2, .long l2), (4, .int l4)]) (by decide) rfl (by decide) (fun _ => rfl) (fun y22 hy22 => ?_)
                have ty22 := i_addT hy22.symm
                clear hy22
                refine wa_goto o_X12_casesOf_36 (by decide) ?_
                refine wa_pick [2, 3, 4, 5, 1, 0] rfl ?_
                exact ih9 _ (by ((try simp only [vp_in_iff, Int32.lt_iff_toInt_lt, Int32.le_iff_toInt_le, ← Int32.toInt_inj, Int32.reduceToInt, n_1, n_2, n_8, Int32.toNatClampNeg, Int64.lt_iff_toInt_lt, Int64.le_iff_toInt_le, ← Int64.toInt_inj, Int64.reduceToInt, Int32.toInt_toInt64, lg_cmp_ge, lg_cmp_le, lg_cmp_gt, lg_cmp_lt, lg_cmp_eq, Bool.false_eq_true, Bool.true_eq_false, reduceCtorEq, false_iff, true_iff, iff_true, iff_false, and_true, true_and, and_false, false_and, reduceIte, ite_true, ite_false, eq_self] at *)) <;> omega) _ _ ⟨(by ((try simp only [vp_in_iff, Int32.lt_iff_toInt_lt, Int32.le_iff_toInt_le, ← Int32.toInt_inj, Int32.reduceToInt, n_1, n_2, n_8, Int32.toNatClampNeg, Int64.lt_iff_toInt_lt, Int64.le_iff_toInt_le, ← Int64.toInt_inj, Int64.reduceToInt, Int32.toInt_toInt64, lg_cmp_ge, lg_cmp_le, lg_cmp_gt, lg_cmp_lt, lg_cmp_eq, Bool.false_eq_true, Bool.true_eq_false, reduceCtorEq, false_iff, true_iff, iff_true, iff_false, and_true, true_and, and_false, false_and, reduceIte, ite_true, ite_false, eq_self] at *)) <;> omega), trivial⟩ rfl
              · refine wa_lload rfl ?_
                refine wa_goto o_X12_casesOf_78 (by decide) ?_
                refine wa_lstoreD (lv' := [(5, .long l5), (0, .ref 84), (1, .int a0), (2, .long l2), (4, .int l4), (7, .int l7)]) (by decide) rfl ?_
                refine wa_iinc (v := (1)) (lv' := fun y23 => [(7, .int y23), (5, .long l5), (0, .ref 84), (1, .int a0), (2, .long l2), (4, .int l4)]) (by decide) rfl (by decide) (fun _ => rfl) (fun y23 hy23 => ?_)
                have ty23 := i_addT hy23.symm
                clear hy23
                refine wa_goto o_X12_casesOf_36 (by decide) ?_
                refine wa_pick [2, 3, 4, 5, 1, 0] rfl ?_
                exact ih9 _ (by ((try simp only [vp_in_iff, Int32.lt_iff_toInt_lt, Int32.le_iff_toInt_le, ← Int32.toInt_inj, Int32.reduceToInt, n_1, n_2, n_8, Int32.toNatClampNeg, Int64.lt_iff_toInt_lt, Int64.le_iff_toInt_le, ← Int64.toInt_inj, Int64.reduceToInt, Int32.toInt_toInt64, lg_cmp_ge, lg_cmp_le, lg_cmp_gt, lg_cmp_lt, lg_cmp_eq, Bool.false_eq_true, Bool.true_eq_false, reduceCtorEq, false_iff, true_iff, iff_true, iff_false, and_true, true_and, and_false, false_and, reduceIte, ite_true, ite_false, eq_self] at *)) <;> omega) _ _ ⟨(by ((try simp only [vp_in_iff, Int32.lt_iff_toInt_lt, Int32.le_iff_toInt_le, ← Int32.toInt_inj, Int32.reduceToInt, n_1, n_2, n_8, Int32.toNatClampNeg, Int64.lt_iff_toInt_lt, Int64.le_iff_toInt_le, ← Int64.toInt_inj, Int64.reduceToInt, Int32.toInt_toInt64, lg_cmp_ge, lg_cmp_le, lg_cmp_gt, lg_cmp_lt, lg_cmp_eq, Bool.false_eq_true, Bool.true_eq_false, reduceCtorEq, false_iff, true_iff, iff_true, iff_false, and_true, true_and, and_false, false_and, reduceIte, ite_true, ite_false, eq_self] at *)) <;> omega), trivial⟩ rfl
        exact hi10 _ _ _ ⟨(by ((try simp only [vp_in_iff, Int32.lt_iff_toInt_lt, Int32.le_iff_toInt_le, ← Int32.toInt_inj, Int32.reduceToInt, n_1, n_2, n_8, Int32.toNatClampNeg, Int64.lt_iff_toInt_lt, Int64.le_iff_toInt_le, ← Int64.toInt_inj, Int64.reduceToInt, Int32.toInt_toInt64, lg_cmp_ge, lg_cmp_le, lg_cmp_gt, lg_cmp_lt, lg_cmp_eq, Bool.false_eq_true, Bool.true_eq_false, reduceCtorEq, false_iff, true_iff, iff_true, iff_false, and_true, true_and, and_false, false_and, reduceIte, ite_true, ite_false, eq_self] at *)) <;> omega), trivial⟩ rfl
  exact hi3 _ _ _ ⟨(by ((try simp only [vp_in_iff, Int32.lt_iff_toInt_lt, Int32.le_iff_toInt_le, ← Int32.toInt_inj, Int32.reduceToInt, n_1, n_2, n_8, Int32.toNatClampNeg, Int64.lt_iff_toInt_lt, Int64.le_iff_toInt_le, ← Int64.toInt_inj, Int64.reduceToInt, Int32.toInt_toInt64, lg_cmp_ge, lg_cmp_le, lg_cmp_gt, lg_cmp_lt, lg_cmp_eq, Bool.false_eq_true, Bool.true_eq_false, reduceCtorEq, false_iff, true_iff, iff_true, iff_false, and_true, true_and, and_false, false_and, reduceIte, ite_true, ite_false, eq_self] at *)) <;> omega), trivial⟩ rfl
set_option maxHeartbeats 4000000 in
theorem sp_X12_about (G : kG9) {d : Nat} (hd : 2 ≤ d) (σ : St) (a0 : Int32) (a1 : Int32) (r1 : 0 ≤ (gi σ 84 33).toInt ∧ (gi σ 84 33).toInt ≤ 24) (A_156 : AR ap_156 σ 156) (A_183 : AR ap_183 σ 183) (A_186 : AR ap_186 σ 186) (A_187 : AR ap_187 σ 187) (A_199 : AR ap_199 σ 199) : Ct G M_X12_about d [.ref 84, .int a0, .int a1] σ (fun r σ' => ∃ x : Int32, r = some (.int x) ∧ Fm [] [0] σ σ' ∧ True) := by
  refine wa_start (by decide) rfl (Nat.le_of_ble_eq_true rfl) (lv := [(0, .ref 84), (1, .int a0), (2, .int a1)]) rfl o_X12_about_0 rfl ?_
  have ua0 := Int32.toInt_lt a0
  have wa0 := Int32.le_toInt a0
  have ua1 := Int32.toInt_lt a1
  have wa1 := Int32.le_toInt a1
  refine wa_aload_n (i := 0) rfl rfl ?_
  refine wa_Vi (d9 := d - 1) [] [] (sp_X12_asks G (d := d - 1) (by omega) σ ) (rfl) rfl rfl (zr (by omega)) mk_X12_asks ly_84 ml_12_871 (Nat.le_of_ble_eq_true rfl) (fun x2 s1 hs1 => ?_)
  obtain ⟨bx2, ex2, fs1, -⟩ := pB hs1
  subst ex2
  have Fs1 : Fm [] [0] σ s1 := Fm.tr (Fm.rf [] [0] σ) (Fm.wd fs1 rfl rfl)
  refine wa_if_ne o_X12_about_10 (by decide) (fun h3 => ?_) (fun h3 => ?_)
  · replace h3 := bI_t (b := bx2) (rfl) h3
    refine wa_aload_n (i := 0) rfl rfl ?_
    refine wa_iload_n (i := 1) rfl rfl ?_
    refine wa_Vi (d9 := d - 1) [.int _] [] (sp_X12_isClaim G (d := d - 1) (by omega) s1 _ (by rw [Fm.gi fs1 (q := 84) (k := 33) rfl rfl]; first | assumption | exact Or.inl rfl | exact Or.inr rfl | (((try simp only [vp_in_iff, Int32.lt_iff_toInt_lt, Int32.le_iff_toInt_le, ← Int32.toInt_inj, Int32.reduceToInt, n_1, n_2, n_8, Int32.toNatClampNeg, Int64.lt_iff_toInt_lt, Int64.le_iff_toInt_le, ← Int64.toInt_inj, Int64.reduceToInt, Int32.toInt_toInt64, lg_cmp_ge, lg_cmp_le, lg_cmp_gt, lg_cmp_lt, lg_cmp_eq, Bool.false_eq_true, Bool.true_eq_false, reduceCtorEq, false_iff, true_iff, iff_true, iff_false, and_true, true_and, and_false, false_and, reduceIte, ite_true, ite_false, eq_self] at *)) <;> omega))) (rfl) rfl rfl (zr (by omega)) mk_X12_isClaim ly_84 ml_12_877 (Nat.le_of_ble_eq_true rfl) (fun x5 s4 hs4 => ?_)
    obtain ⟨bx5, ex5, zs4, cx5_1, -⟩ := pB hs4
    subst ex5
    rw [Fm.gi fs1 (q := 84) (k := 33) rfl rfl] at cx5_1
    subst zs4
    refine wa_if_ne o_X12_about_21 (by decide) (fun h6 => ?_) (fun h6 => ?_)
    · replace h6 := bI_t (b := bx5) (rfl) h6
      have uh6_0 := iff_t cx5_1 h6
      refine wa_iload_n (i := 2) rfl rfl ?_
      refine wa_top (fun q7 hq7 => ?_)
      by_cases h8 : q7 = 0
      · refine wa_tIn (by rw [h8]; decide) (by rw [h8]; decide) (by rw [h8] <;> rfl) o_X12_about_60 (by decide) ?_
        refine wa_aload_n (i := 0) rfl rfl ?_
        refine wa_getr ck_12 fl_12_265 ly_84 rf_84_103 ?_
        refine wa_iload_n (i := 1) rfl rfl ?_
        refine wa_zald ly_146 (by ((try simp only [vp_in_iff, Int32.lt_iff_toInt_lt, Int32.le_iff_toInt_le, ← Int32.toInt_inj, Int32.reduceToInt, n_1, n_2, n_8, Int32.toNatClampNeg, Int64.lt_iff_toInt_lt, Int64.le_iff_toInt_le, ← Int64.toInt_inj, Int64.reduceToInt, Int32.toInt_toInt64, lg_cmp_ge, lg_cmp_le, lg_cmp_gt, lg_cmp_lt, lg_cmp_eq, Bool.false_eq_true, Bool.true_eq_false, reduceCtorEq, false_iff, true_iff, iff_true, iff_false, and_true, true_and, and_false, false_and, reduceIte, ite_true, ite_false, eq_self] at *)) <;> omega) ?_
        refine wa_if_eq o_X12_about_73 (by decide) (fun h9 => ?_) (fun h9 => ?_)
        · replace h9 := bI_f (b := (gb s1 146 (a0).toNatClampNeg)) (rfl) h9
          refine wa_iconst (v := 0) (by decide) ?_
          refine wa_ireturn rfl rfl ?_
          exact ⟨_, rfl, Fs1, trivial⟩
        · replace h9 := bI_t (b := (gb s1 146 (a0).toNatClampNeg)) (rfl) h9
          refine wa_iconst (v := 1) (by decide) ?_
          refine wa_goto o_X12_about_74 (by decide) ?_
          refine wa_ireturn rfl rfl ?_
          exact ⟨_, rfl, Fs1, trivial⟩
      ·
        by_cases h10 : q7 = 1
        · refine wa_tIn (by rw [h10]; decide) (by rw [h10]; decide) (by rw [h10] <;> rfl) o_X12_about_75 (by decide) ?_
          refine wa_aload_n (i := 0) rfl rfl ?_
          refine wa_getr ck_12 fl_12_235 ly_84 rf_84_89 ?_
          refine wa_iload_n (i := 1) rfl rfl ?_
          refine wa_iald ly_156 (by ((try simp only [vp_in_iff, Int32.lt_iff_toInt_lt, Int32.le_iff_toInt_le, ← Int32.toInt_inj, Int32.reduceToInt, n_1, n_2, n_8, Int32.toNatClampNeg, Int64.lt_iff_toInt_lt, Int64.le_iff_toInt_le, ← Int64.toInt_inj, Int64.reduceToInt, Int32.toInt_toInt64, lg_cmp_ge, lg_cmp_le, lg_cmp_gt, lg_cmp_lt, lg_cmp_eq, Bool.false_eq_true, Bool.true_eq_false, reduceCtorEq, false_iff, true_iff, iff_true, iff_false, and_true, true_and, and_false, false_and, reduceIte, ite_true, ite_false, eq_self] at *)) <;> omega) ?_
          refine wa_top (fun v11 hv11 => ?_)
          have rv11 : 0 ≤ v11.toInt ∧ v11.toInt ≤ 24 := by rw [← hv11]; exact ar_at (ar_fm fs1 rfl rfl A_156) _
          clear hv11
          refine wa_ireturn rfl rfl ?_
          exact ⟨_, rfl, Fs1, trivial⟩
        ·
          by_cases h12 : q7 = 2
          · refine wa_tIn (by rw [h12]; decide) (by rw [h12]; decide) (by rw [h12] <;> rfl) o_X12_about_82 (by decide) ?_
            refine wa_aload_n (i := 0) rfl rfl ?_
            refine wa_iload_n (i := 1) rfl rfl ?_
            refine wa_Vl (d9 := d - 1) [.int _] [] (sp_X12_casesOf G (d := d - 1) (by omega) s1 _ (by ((try simp only [vp_in_iff, Int32.lt_iff_toInt_lt, Int32.le_iff_toInt_le, ← Int32.toInt_inj, Int32.reduceToInt, n_1, n_2, n_8, Int32.toNatClampNeg, Int64.lt_iff_toInt_lt, Int64.le_iff_toInt_le, ← Int64.toInt_inj, Int64.reduceToInt, Int32.toInt_toInt64, lg_cmp_ge, lg_cmp_le, lg_cmp_gt, lg_cmp_lt, lg_cmp_eq, Bool.false_eq_true, Bool.true_eq_false, reduceCtorEq, false_iff, true_iff, iff_true, iff_false, and_true, true_and, and_false, false_and, reduceIte, ite_true, ite_false, eq_self] at *)) <;> omega) (ar_fm fs1 rfl rfl A_183) (ar_fm fs1 rfl rfl A_186) (ar_fm fs1 rfl rfl A_187)) (rfl) rfl rfl (zr (by omega)) mk_X12_casesOf ly_84 ml_12_808 (Nat.le_of_ble_eq_true rfl) (fun x14 s13 hs13 => ?_)
            obtain ⟨zs13, -⟩ := pL hs13
            subst zs13
            refine wa_l2i ?_
            refine wa_top (fun v15 hv15 => ?_)
            have tv15 := i_l2iU hv15
            clear hv15
            refine wa_ireturn rfl rfl ?_
            exact ⟨_, rfl, Fs1, trivial⟩
          ·
            by_cases h16 : q7 = 3
            · refine wa_tIn (by rw [h16]; decide) (by rw [h16]; decide) (by rw [h16] <;> rfl) o_X12_about_89 (by decide) ?_
              refine wa_aload_n (i := 0) rfl rfl ?_
              refine wa_getr ck_12 fl_12_244 ly_84 rf_84_92 ?_
              refine wa_iload_n (i := 1) rfl rfl ?_
              refine wa_zald ly_153 (by ((try simp only [vp_in_iff, Int32.lt_iff_toInt_lt, Int32.le_iff_toInt_le, ← Int32.toInt_inj, Int32.reduceToInt, n_1, n_2, n_8, Int32.toNatClampNeg, Int64.lt_iff_toInt_lt, Int64.le_iff_toInt_le, ← Int64.toInt_inj, Int64.reduceToInt, Int32.toInt_toInt64, lg_cmp_ge, lg_cmp_le, lg_cmp_gt, lg_cmp_lt, lg_cmp_eq, Bool.false_eq_true, Bool.true_eq_false, reduceCtorEq, false_iff, true_iff, iff_true, iff_false, and_true, true_and, and_false, false_and, reduceIte, ite_true, ite_false, eq_self] at *)) <;> omega) ?_
              refine wa_if_eq o_X12_about_102 (by decide) (fun h17 => ?_) (fun h17 => ?_)
              · replace h17 := bI_f (b := (gb s1 153 (a0).toNatClampNeg)) (rfl) h17
                refine wa_iconst (v := 0) (by decide) ?_
                refine wa_ireturn rfl rfl ?_
                exact ⟨_, rfl, Fs1, trivial⟩
              · replace h17 := bI_t (b := (gb s1 153 (a0).toNatClampNeg)) (rfl) h17
                refine wa_iconst (v := 1) (by decide) ?_
                refine wa_goto o_X12_about_103 (by decide) ?_
                refine wa_ireturn rfl rfl ?_
                exact ⟨_, rfl, Fs1, trivial⟩
            ·
              by_cases h18 : q7 = 4
              · refine wa_tIn (by rw [h18]; decide) (by rw [h18]; decide) (by rw [h18] <;> rfl) o_X12_about_104 (by decide) ?_
                refine wa_aload_n (i := 0) rfl rfl ?_
                refine wa_getr ck_12 fl_12_268 ly_84 rf_84_104 ?_
                refine wa_iload_n (i := 1) rfl rfl ?_
                refine wa_iald ly_145 (by ((try simp only [vp_in_iff, Int32.lt_iff_toInt_lt, Int32.le_iff_toInt_le, ← Int32.toInt_inj, Int32.reduceToInt, n_1, n_2, n_8, Int32.toNatClampNeg, Int64.lt_iff_toInt_lt, Int64.le_iff_toInt_le, ← Int64.toInt_inj, Int64.reduceToInt, Int32.toInt_toInt64, lg_cmp_ge, lg_cmp_le, lg_cmp_gt, lg_cmp_lt, lg_cmp_eq, Bool.false_eq_true, Bool.true_eq_false, reduceCtorEq, false_iff, true_iff, iff_true, iff_false, and_true, true_and, and_false, false_and, reduceIte, ite_true, ite_false, eq_self] at *)) <;> omega) ?_
                refine wa_ireturn rfl rfl ?_
                exact ⟨_, rfl, Fs1, trivial⟩
              ·
                by_cases h19 : q7 = 5
                · refine wa_tIn (by rw [h19]; decide) (by rw [h19]; decide) (by rw [h19] <;> rfl) o_X12_about_111 (by decide) ?_
                  refine wa_aload_n (i := 0) rfl rfl ?_
                  refine wa_getr ck_12 fl_12_105 ly_84 rf_84_40 ?_
                  refine wa_iload_n (i := 1) rfl rfl ?_
                  refine wa_iald ly_199 (by ((try simp only [vp_in_iff, Int32.lt_iff_toInt_lt, Int32.le_iff_toInt_le, ← Int32.toInt_inj, Int32.reduceToInt, n_1, n_2, n_8, Int32.toNatClampNeg, Int64.lt_iff_toInt_lt, Int64.le_iff_toInt_le, ← Int64.toInt_inj, Int64.reduceToInt, Int32.toInt_toInt64, lg_cmp_ge, lg_cmp_le, lg_cmp_gt, lg_cmp_lt, lg_cmp_eq, Bool.false_eq_true, Bool.true_eq_false, reduceCtorEq, false_iff, true_iff, iff_true, iff_false, and_true, true_and, and_false, false_and, reduceIte, ite_true, ite_false, eq_self] at *)) <;> omega) ?_
                  refine wa_top (fun v20 hv20 => ?_)
                  have rv20 : 0 ≤ v20.toInt ∧ v20.toInt ≤ 120 := by rw [← hv20]; exact ar_at (ar_fm fs1 rfl rfl A_199) _
                  clear hv20
                  refine wa_ireturn rfl rfl ?_
                  exact ⟨_, rfl, Fs1, trivial⟩
                ·
                  refine wa_tOut (by (try simp only [vp_in_iff, Int32.lt_iff_toInt_lt, Int32.le_iff_toInt_le, ← Int32.toInt_inj, Int32.reduceToInt, n_1, n_2, n_8, Int32.toNatClampNeg, Int64.lt_iff_toInt_lt, Int64.le_iff_toInt_le, ← Int64.toInt_inj, Int64.reduceToInt, Int32.toInt_toInt64, lg_cmp_ge, lg_cmp_le, lg_cmp_gt, lg_cmp_lt, lg_cmp_eq] at *) <;> omega) o_X12_about_118 (by decide) ?_
                  refine wa_iconst (v := (-1)) (by decide) ?_
                  refine wa_ireturn rfl rfl ?_
                  exact ⟨_, rfl, Fs1, trivial⟩
    · replace h6 := bI_f (b := bx5) (rfl) h6
      have uh6_0 := iff_f cx5_1 h6
      refine wa_bipush (v := (-101)) (by decide) ?_
      refine wa_ireturn rfl rfl ?_
      exact ⟨_, rfl, Fs1, trivial⟩
  · replace h3 := bI_f (b := bx2) (rfl) h3
    refine wa_bipush (v := (-105)) (by decide) ?_
    refine wa_ireturn rfl rfl ?_
    exact ⟨_, rfl, Fs1, trivial⟩
set_option maxHeartbeats 4000000 in
theorem sp_X12_atom (G : kG9) {d : Nat} (hd : 2 ≤ d) (σ : St) (a0 : Int32) (a1 : Int32) (a2 : Int32) (r1 : 0 ≤ (gi σ 84 33).toInt ∧ (gi σ 84 33).toInt ≤ 24) (A_156 : AR ap_156 σ 156) (A_157 : AR ap_157 σ 157) (A_158 : AR ap_158 σ 158) (A_159 : AR ap_159 σ 159) : Ct G M_X12_atom d [.ref 84, .int a0, .int a1, .int a2] σ (fun r σ' => ∃ x : Int32, r = some (.int x) ∧ Fm [] [0] σ σ' ∧ True) := by
  refine wa_start (by decide) rfl (Nat.le_of_ble_eq_true rfl) (lv := [(0, .ref 84), (1, .int a0), (2, .int a1), (3, .int a2)]) rfl o_X12_atom_0 rfl ?_
  have ua0 := Int32.toInt_lt a0
  have wa0 := Int32.le_toInt a0
  have ua1 := Int32.toInt_lt a1
  have wa1 := Int32.le_toInt a1
  have ua2 := Int32.toInt_lt a2
  have wa2 := Int32.le_toInt a2
  refine wa_aload_n (i := 0) rfl rfl ?_
  refine wa_Vi (d9 := d - 1) [] [] (sp_X12_asks G (d := d - 1) (by omega) σ ) (rfl) rfl rfl (zr (by omega)) mk_X12_asks ly_84 ml_12_871 (Nat.le_of_ble_eq_true rfl) (fun x2 s1 hs1 => ?_)
  obtain ⟨bx2, ex2, fs1, -⟩ := pB hs1
  subst ex2
  have Fs1 : Fm [] [0] σ s1 := Fm.tr (Fm.rf [] [0] σ) (Fm.wd fs1 rfl rfl)
  refine wa_if_ne o_X12_atom_10 (by decide) (fun h3 => ?_) (fun h3 => ?_)
  · replace h3 := bI_t (b := bx2) (rfl) h3
    refine wa_aload_n (i := 0) rfl rfl ?_
    refine wa_iload_n (i := 1) rfl rfl ?_
    refine wa_Vi (d9 := d - 1) [.int _] [] (sp_X12_isClaim G (d := d - 1) (by omega) s1 _ (by rw [Fm.gi fs1 (q := 84) (k := 33) rfl rfl]; first | assumption | exact Or.inl rfl | exact Or.inr rfl | (((try simp only [vp_in_iff, Int32.lt_iff_toInt_lt, Int32.le_iff_toInt_le, ← Int32.toInt_inj, Int32.reduceToInt, n_1, n_2, n_8, Int32.toNatClampNeg, Int64.lt_iff_toInt_lt, Int64.le_iff_toInt_le, ← Int64.toInt_inj, Int64.reduceToInt, Int32.toInt_toInt64, lg_cmp_ge, lg_cmp_le, lg_cmp_gt, lg_cmp_lt, lg_cmp_eq, Bool.false_eq_true, Bool.true_eq_false, reduceCtorEq, false_iff, true_iff, iff_true, iff_false, and_true, true_and, and_false, false_and, reduceIte, ite_true, ite_false, eq_self] at *)) <;> omega))) (rfl) rfl rfl (zr (by omega)) mk_X12_isClaim ly_84 ml_12_877 (Nat.le_of_ble_eq_true rfl) (fun x5 s4 hs4 => ?_)
    obtain ⟨bx5, ex5, zs4, cx5_1, -⟩ := pB hs4
    subst ex5
    rw [Fm.gi fs1 (q := 84) (k := 33) rfl rfl] at cx5_1
    subst zs4
    refine wa_if_ne o_X12_atom_21 (by decide) (fun h6 => ?_) (fun h6 => ?_)
    · replace h6 := bI_t (b := bx5) (rfl) h6
      have uh6_0 := iff_t cx5_1 h6
      refine wa_iload_n (i := 2) rfl rfl ?_
      refine wa_i2l ?_
      refine wa_lconst (v := 0) (by decide) ?_
      refine wa_aload_n (i := 0) rfl rfl ?_
      refine wa_getr ck_12 fl_12_235 ly_84 rf_84_89 ?_
      refine wa_iload_n (i := 1) rfl rfl ?_
      refine wa_iald ly_156 (by ((try simp only [vp_in_iff, Int32.lt_iff_toInt_lt, Int32.le_iff_toInt_le, ← Int32.toInt_inj, Int32.reduceToInt, n_1, n_2, n_8, Int32.toNatClampNeg, Int64.lt_iff_toInt_lt, Int64.le_iff_toInt_le, ← Int64.toInt_inj, Int64.reduceToInt, Int32.toInt_toInt64, lg_cmp_ge, lg_cmp_le, lg_cmp_gt, lg_cmp_lt, lg_cmp_eq, Bool.false_eq_true, Bool.true_eq_false, reduceCtorEq, false_iff, true_iff, iff_true, iff_false, and_true, true_and, and_false, false_and, reduceIte, ite_true, ite_false, eq_self] at *)) <;> omega) ?_
      refine wa_top (fun v7 hv7 => ?_)
      have rv7 : 0 ≤ v7.toInt ∧ v7.toInt ≤ 24 := by rw [← hv7]; exact ar_at (ar_fm fs1 rfl rfl A_156) _
      clear hv7
      refine wa_iconst (v := 1) (by decide) ?_
      refine wa_isub ?_
      refine wa_top (fun v8 hv8 => ?_)
      have tv8 := i_subT hv8
      clear hv8
      refine wa_i2l ?_
      refine wa_Si (d9 := d - 1) [.long _, .long _, .long _] [] (sp_X12_in G (d := d - 1) (by omega) s1 _ _ _) (rfl) rfl rfl (zr (by omega)) mk_X12_in ml_12_504 (Nat.le_of_ble_eq_true rfl) (fun x10 s9 hs9 => ?_)
      obtain ⟨bx10, ex10, zs9, cx10_1, -⟩ := pB hs9
      subst ex10
      subst zs9
      refine wa_if_eq o_X12_atom_51 (by decide) (fun h11 => ?_) (fun h11 => ?_)
      · replace h11 := bI_f (b := bx10) (rfl) h11
        have uh11_0 := iff_f cx10_1 h11
        refine wa_bipush (v := (-102)) (by decide) ?_
        refine wa_ireturn rfl rfl ?_
        exact ⟨_, rfl, Fs1, trivial⟩
      · replace h11 := bI_t (b := bx10) (rfl) h11
        have uh11_0 := iff_t cx10_1 h11
        refine wa_iload_n (i := 3) rfl rfl ?_
        refine wa_i2l ?_
        refine wa_lconst (v := 0) (by decide) ?_
        refine wa_ldc2 (v := (5)) (allW_in (kT_14 _ (List.mem_of_getElem? (i := 4) rfl)) rfl) ?_
        refine wa_Si (d9 := d - 1) [.long _, .long _, .long _] [] (sp_X12_in G (d := d - 1) (by omega) s1 _ _ _) (rfl) rfl rfl (zr (by omega)) mk_X12_in ml_12_504 (Nat.le_of_ble_eq_true rfl) (fun x13 s12 hs12 => ?_)
        obtain ⟨bx13, ex13, zs12, cx13_1, -⟩ := pB hs12
        subst ex13
        subst zs12
        refine wa_if_ne o_X12_atom_54 (by decide) (fun h14 => ?_) (fun h14 => ?_)
        · replace h14 := bI_t (b := bx13) (rfl) h14
          have uh14_0 := iff_t cx13_1 h14
          refine wa_bipush (v := 24) (by decide) ?_
          refine wa_iload_n (i := 1) rfl rfl ?_
          refine wa_imul ?_
          refine wa_top (fun v15 hv15 => ?_)
          have tv15 := i_mulT hv15
          clear hv15
          refine wa_iload_n (i := 2) rfl rfl ?_
          refine wa_iadd ?_
          refine wa_top (fun v16 hv16 => ?_)
          have tv16 := i_addT hv16
          clear hv16
          refine wa_istoreD (lv' := [(4, .int v16), (0, .ref 84), (1, .int a0), (2, .int a1), (3, .int a2)]) (by decide) rfl ?_
          refine wa_iload_n (i := 3) rfl rfl ?_
          refine wa_iconst (v := 4) (by decide) ?_
          refine wa_icmp_ge o_X12_atom_81 (by decide) (fun h17 => ?_) (fun h17 => ?_)
          · refine wa_iload_n (i := 3) rfl rfl ?_
            refine wa_iconst (v := 4) (by decide) ?_
            refine wa_icmp_ne o_X12_atom_96 (by decide) (fun h18 => ?_) (fun h18 => ?_)
            · refine wa_aload_n (i := 0) rfl rfl ?_
              refine wa_getr ck_12 fl_12_232 ly_84 rf_84_88 ?_
              refine wa_iload rfl ?_
              refine wa_iald ly_157 (by ((try simp only [vp_in_iff, Int32.lt_iff_toInt_lt, Int32.le_iff_toInt_le, ← Int32.toInt_inj, Int32.reduceToInt, n_1, n_2, n_8, Int32.toNatClampNeg, Int64.lt_iff_toInt_lt, Int64.le_iff_toInt_le, ← Int64.toInt_inj, Int64.reduceToInt, Int32.toInt_toInt64, lg_cmp_ge, lg_cmp_le, lg_cmp_gt, lg_cmp_lt, lg_cmp_eq, Bool.false_eq_true, Bool.true_eq_false, reduceCtorEq, false_iff, true_iff, iff_true, iff_false, and_true, true_and, and_false, false_and, reduceIte, ite_true, ite_false, eq_self] at *)) <;> omega) ?_
              refine wa_top (fun v19 hv19 => ?_)
              have rv19 : 0 ≤ v19.toInt ∧ v19.toInt ≤ 12 := by rw [← hv19]; exact ar_at (ar_fm fs1 rfl rfl A_157) _
              clear hv19
              refine wa_ireturn rfl rfl ?_
              exact ⟨_, rfl, Fs1, trivial⟩
            · refine wa_aload_n (i := 0) rfl rfl ?_
              refine wa_getr ck_12 fl_12_229 ly_84 rf_84_87 ?_
              refine wa_iload rfl ?_
              refine wa_iald ly_158 (by ((try simp only [vp_in_iff, Int32.lt_iff_toInt_lt, Int32.le_iff_toInt_le, ← Int32.toInt_inj, Int32.reduceToInt, n_1, n_2, n_8, Int32.toNatClampNeg, Int64.lt_iff_toInt_lt, Int64.le_iff_toInt_le, ← Int64.toInt_inj, Int64.reduceToInt, Int32.toInt_toInt64, lg_cmp_ge, lg_cmp_le, lg_cmp_gt, lg_cmp_lt, lg_cmp_eq, Bool.false_eq_true, Bool.true_eq_false, reduceCtorEq, false_iff, true_iff, iff_true, iff_false, and_true, true_and, and_false, false_and, reduceIte, ite_true, ite_false, eq_self] at *)) <;> omega) ?_
              refine wa_top (fun v20 hv20 => ?_)
              have rv20 : -99999 ≤ v20.toInt ∧ v20.toInt ≤ 99999 := by rw [← hv20]; exact ar_at (ar_fm fs1 rfl rfl A_158) _
              clear hv20
              refine wa_goto o_X12_atom_103 (by decide) ?_
              refine wa_ireturn rfl rfl ?_
              exact ⟨_, rfl, Fs1, trivial⟩
          · have mh17 := nle_mx h17
            refine wa_aload_n (i := 0) rfl rfl ?_
            refine wa_getr ck_12 fl_12_226 ly_84 rf_84_86 ?_
            refine wa_iconst (v := 4) (by decide) ?_
            refine wa_iload rfl ?_
            refine wa_imul ?_
            refine wa_top (fun v21 hv21 => ?_)
            have tv21 := i_mulT hv21
            clear hv21
            refine wa_iload_n (i := 3) rfl rfl ?_
            refine wa_iadd ?_
            refine wa_top (fun v22 hv22 => ?_)
            have tv22 := i_addT hv22
            clear hv22
            refine wa_iald ly_159 (by ((try simp only [vp_in_iff, Int32.lt_iff_toInt_lt, Int32.le_iff_toInt_le, ← Int32.toInt_inj, Int32.reduceToInt, n_1, n_2, n_8, Int32.toNatClampNeg, Int64.lt_iff_toInt_lt, Int64.le_iff_toInt_le, ← Int64.toInt_inj, Int64.reduceToInt, Int32.toInt_toInt64, lg_cmp_ge, lg_cmp_le, lg_cmp_gt, lg_cmp_lt, lg_cmp_eq, Bool.false_eq_true, Bool.true_eq_false, reduceCtorEq, false_iff, true_iff, iff_true, iff_false, and_true, true_and, and_false, false_and, reduceIte, ite_true, ite_false, eq_self] at *)) <;> omega) ?_
            refine wa_top (fun v23 hv23 => ?_)
            have rv23 : -20 ≤ v23.toInt ∧ v23.toInt ≤ 20 := by rw [← hv23]; exact ar_at (ar_fm fs1 rfl rfl A_159) _
            clear hv23
            refine wa_goto o_X12_atom_103 (by decide) ?_
            refine wa_ireturn rfl rfl ?_
            exact ⟨_, rfl, Fs1, trivial⟩
        · replace h14 := bI_f (b := bx13) (rfl) h14
          have uh14_0 := iff_f cx13_1 h14
          refine wa_bipush (v := (-102)) (by decide) ?_
          refine wa_ireturn rfl rfl ?_
          exact ⟨_, rfl, Fs1, trivial⟩
    · replace h6 := bI_f (b := bx5) (rfl) h6
      have uh6_0 := iff_f cx5_1 h6
      refine wa_bipush (v := (-101)) (by decide) ?_
      refine wa_ireturn rfl rfl ?_
      exact ⟨_, rfl, Fs1, trivial⟩
  · replace h3 := bI_f (b := bx2) (rfl) h3
    refine wa_bipush (v := (-105)) (by decide) ?_
    refine wa_ireturn rfl rfl ?_
    exact ⟨_, rfl, Fs1, trivial⟩
set_option maxHeartbeats 4000000 in
theorem sp_X12_printed (G : kG9) {d : Nat} (hd : 1 ≤ d) (σ : St) (a0 : Int32) (r1 : 0 ≤ (gi σ 84 112).toInt ∧ (gi σ 84 112).toInt ≤ 4000) : Ct G M_X12_printed d [.ref 84, .int a0] σ (fun r σ' => ∃ x : Int32, r = some (.int x) ∧ Fm [] [0] σ σ' ∧ True) := by
  refine wa_start (by decide) rfl (Nat.le_of_ble_eq_true rfl) (lv := [(0, .ref 84), (1, .int a0)]) rfl o_X12_printed_0 rfl ?_
  have ua0 := Int32.toInt_lt a0
  have wa0 := Int32.le_toInt a0
  refine wa_aload_n (i := 0) rfl rfl ?_
  refine wa_iconst (v := 0) (by decide) ?_
  refine wa_puti ck_12 fl_12_3 ly_84 (fun s1 hs1 => ?_)
  have Fs1 : Fm [] [0] σ s1 := by rw [hs1]; exact Fm.si (Fm.rf [] [0] σ) rfl
  refine wa_iload_n (i := 1) rfl rfl ?_
  refine wa_i2l ?_
  refine wa_lconst (v := 0) (by decide) ?_
  refine wa_aload_n (i := 0) rfl rfl ?_
  refine wa_geti ck_12 fl_12_882 ly_84 ?_
  refine wa_rw (nxk_gi_si hs1 (by decide)) ?_
  refine wa_iconst (v := 1) (by decide) ?_
  refine wa_isub ?_
  refine wa_top (fun v2 hv2 => ?_)
  have tv2 := i_subT hv2
  clear hv2
  refine wa_i2l ?_
  refine wa_Si (d9 := d - 1) [.long _, .long _, .long _] [] (sp_X12_in G (d := d - 1) (by omega) s1 _ _ _) (rfl) rfl rfl (zr (by omega)) mk_X12_in ml_12_504 (Nat.le_of_ble_eq_true rfl) (fun x4 s3 hs3 => ?_)
  obtain ⟨bx4, ex4, zs3, cx4_1, -⟩ := pB hs3
  subst ex4
  subst zs3
  refine wa_if_eq o_X12_printed_34 (by decide) (fun h5 => ?_) (fun h5 => ?_)
  · replace h5 := bI_f (b := bx4) (rfl) h5
    have uh5_0 := iff_f cx4_1 h5
    refine wa_iconst (v := (-1)) (by decide) ?_
    refine wa_ireturn rfl rfl ?_
    exact ⟨_, rfl, Fs1, trivial⟩
  · replace h5 := bI_t (b := bx4) (rfl) h5
    have uh5_0 := iff_t cx4_1 h5
    refine wa_aload_n (i := 0) rfl rfl ?_
    refine wa_getr ck_12 fl_12_283 ly_84 rf_84_111 ?_
    refine wa_iload_n (i := 1) rfl rfl ?_
    refine wa_bald ly_140 (by ((try simp only [vp_in_iff, Int32.lt_iff_toInt_lt, Int32.le_iff_toInt_le, ← Int32.toInt_inj, Int32.reduceToInt, n_1, n_2, n_8, Int32.toNatClampNeg, Int64.lt_iff_toInt_lt, Int64.le_iff_toInt_le, ← Int64.toInt_inj, Int64.reduceToInt, Int32.toInt_toInt64, lg_cmp_ge, lg_cmp_le, lg_cmp_gt, lg_cmp_lt, lg_cmp_eq, Bool.false_eq_true, Bool.true_eq_false, reduceCtorEq, false_iff, true_iff, iff_true, iff_false, and_true, true_and, and_false, false_and, reduceIte, ite_true, ite_false, eq_self] at *)) <;> omega) ?_
    refine wa_sipush (v := 255) (by decide) ?_
    refine wa_iand ?_
    refine wa_top (fun v6 hv6 => ?_)
    have tv6 := i_andT hv6
    clear hv6
    refine wa_goto o_X12_printed_35 (by decide) ?_
    refine wa_ireturn rfl rfl ?_
    exact ⟨_, rfl, Fs1, trivial⟩
set_option maxHeartbeats 4000000 in
theorem sp_X12_idle (G : kG9) {d : Nat} (hd : 0 ≤ d) (σ : St) : Ct G M_X12_idle d [.ref 84] σ (fun r σ' => Fm [133] [119] σ σ' ∧ ((gi σ' 84 119).toInt = 0) ∧ INW σ' ∧ True) := by
  refine wa_start (by decide) rfl (Nat.le_of_ble_eq_true rfl) (lv := [(0, .ref 84)]) rfl o_X12_idle_0 rfl ?_
  refine wa_aload_n (i := 0) rfl rfl ?_
  refine wa_iconst (v := 0) (by decide) ?_
  refine wa_puti ck_12 fl_12_928 ly_84 (fun s1 hs1 => ?_)
  have Fs1 : Fm [133] [119] σ s1 := by rw [hs1]; exact Fm.si (Fm.rf [133] [119] σ) rfl
  refine wa_iconst (v := 0) (by decide) ?_
  refine wa_istore_nD (lv' := [(1, .int 0), (0, .ref 84)]) (i := 1) rfl (by decide) rfl ?_
  refine wa_pick [1, 0] rfl ?_
  have hi4 : ∀ (n9_7 : Nat) (l1 : Int32) (s2 : St), ((Fm [133] [119] σ s2) ∧ (gi s2 84 119 = (0 : Int32)) ∧ (0 ≤ l1.toInt) ∧ (∀ k : Nat, (k : Int) < l1.toInt → gb s2 133 k = false) ∧ (True)) → (2147483647 - l1.toInt).toNat = n9_7 → WA G M_X12_idle (ZM G M_X12_idle d (fun r σ' => Fm [133] [119] σ σ' ∧ ((gi σ' 84 119).toInt = 0) ∧ INW σ' ∧ True)) B_X12_idle_7 [(0, .ref 84), (1, .int l1)] [] s2 := by
    intro n9_7
    induction n9_7 using Nat.strongRecOn with
    | _ n9_7 ih3 =>
      intro l1 s2 i9 m9_7
      obtain ⟨Fs2, khi4_0, jhi4_0, jhi4_1, -⟩ := i9
      have ul1 := Int32.toInt_lt l1
      have wl1 := Int32.le_toInt l1
      refine wa_iload_n (i := 1) rfl rfl ?_
      refine wa_bipush (v := 25) (by decide) ?_
      refine wa_icmp_gt o_X12_idle_26 (by decide) (fun h5 => ?_) (fun h5 => ?_)
      · have Ps2_INW : INW s2 := inw_none (fun k hk => ‹∀ k : Nat, (k : Int) < _ → gb _ 133 k = false› k (by ((try simp only [vp_in_iff, Int32.lt_iff_toInt_lt, Int32.le_iff_toInt_le, ← Int32.toInt_inj, Int32.reduceToInt, n_1, n_2, n_8, Int32.toNatClampNeg, Int64.lt_iff_toInt_lt, Int64.le_iff_toInt_le, ← Int64.toInt_inj, Int64.reduceToInt, Int32.toInt_toInt64, lg_cmp_ge, lg_cmp_le, lg_cmp_gt, lg_cmp_lt, lg_cmp_eq, Bool.false_eq_true, Bool.true_eq_false, reduceCtorEq, false_iff, true_iff, iff_true, iff_false, and_true, true_and, and_false, false_and, reduceIte, ite_true, ite_false, eq_self] at *)) <;> omega))
        refine wa_return (st := []) rfl rfl ?_
        exact ⟨Fs2, (by rw [khi4_0]; first | assumption | (((try simp only [vp_in_iff, Int32.lt_iff_toInt_lt, Int32.le_iff_toInt_le, ← Int32.toInt_inj, Int32.reduceToInt, n_1, n_2, n_8, Int32.toNatClampNeg, Int64.lt_iff_toInt_lt, Int64.le_iff_toInt_le, ← Int64.toInt_inj, Int64.reduceToInt, Int32.toInt_toInt64, lg_cmp_ge, lg_cmp_le, lg_cmp_gt, lg_cmp_lt, lg_cmp_eq, Bool.false_eq_true, Bool.true_eq_false, reduceCtorEq, false_iff, true_iff, iff_true, iff_false, and_true, true_and, and_false, false_and, reduceIte, ite_true, ite_false, eq_self] at *)) <;> omega)), Ps2_INW, trivial⟩
      · refine wa_aload_n (i := 0) rfl rfl ?_
        refine wa_getr ck_12 fl_12_304 ly_84 rf_84_121 ?_
        refine wa_iload_n (i := 1) rfl rfl ?_
        refine wa_iconst (v := 0) (by decide) ?_
        refine wa_zast false (rfl) ly_133 (by ((try simp only [vp_in_iff, Int32.lt_iff_toInt_lt, Int32.le_iff_toInt_le, ← Int32.toInt_inj, Int32.reduceToInt, n_1, n_2, n_8, Int32.toNatClampNeg, Int64.lt_iff_toInt_lt, Int64.le_iff_toInt_le, ← Int64.toInt_inj, Int64.reduceToInt, Int32.toInt_toInt64, lg_cmp_ge, lg_cmp_le, lg_cmp_gt, lg_cmp_lt, lg_cmp_eq, Bool.false_eq_true, Bool.true_eq_false, reduceCtorEq, false_iff, true_iff, iff_true, iff_false, and_true, true_and, and_false, false_and, reduceIte, ite_true, ite_false, eq_self] at *)) <;> omega) (fun s6 hs6 => ?_)
        have Fs6 : Fm [133] [119] σ s6 := by rw [hs6]; exact Fm.sb Fs2 rfl
        refine wa_iinc (v := (1)) (lv' := fun y7 => [(1, .int y7), (0, .ref 84)]) (by decide) rfl (by decide) (fun _ => rfl) (fun y7 hy7 => ?_)
        have ty7 := i_addT hy7.symm
        clear hy7
        refine wa_goto o_X12_idle_7 (by decide) ?_
        refine wa_pick [1, 0] rfl ?_
        exact ih3 _ (by ((try simp only [vp_in_iff, Int32.lt_iff_toInt_lt, Int32.le_iff_toInt_le, ← Int32.toInt_inj, Int32.reduceToInt, n_1, n_2, n_8, Int32.toNatClampNeg, Int64.lt_iff_toInt_lt, Int64.le_iff_toInt_le, ← Int64.toInt_inj, Int64.reduceToInt, Int32.toInt_toInt64, lg_cmp_ge, lg_cmp_le, lg_cmp_gt, lg_cmp_lt, lg_cmp_eq, Bool.false_eq_true, Bool.true_eq_false, reduceCtorEq, false_iff, true_iff, iff_true, iff_false, and_true, true_and, and_false, false_and, reduceIte, ite_true, ite_false, eq_self] at *)) <;> omega) _ _ ⟨Fs6, ((nx_gi_sb hs6).trans (khi4_0)), (by ((try simp only [vp_in_iff, Int32.lt_iff_toInt_lt, Int32.le_iff_toInt_le, ← Int32.toInt_inj, Int32.reduceToInt, n_1, n_2, n_8, Int32.toNatClampNeg, Int64.lt_iff_toInt_lt, Int64.le_iff_toInt_le, ← Int64.toInt_inj, Int64.reduceToInt, Int32.toInt_toInt64, lg_cmp_ge, lg_cmp_le, lg_cmp_gt, lg_cmp_lt, lg_cmp_eq, Bool.false_eq_true, Bool.true_eq_false, reduceCtorEq, false_iff, true_iff, iff_true, iff_false, and_true, true_and, and_false, false_and, reduceIte, ite_true, ite_false, eq_self] at *)) <;> omega), (by first | exact allb_w hs6 (by assumption) (by ((try simp only [vp_in_iff, Int32.lt_iff_toInt_lt, Int32.le_iff_toInt_le, ← Int32.toInt_inj, Int32.reduceToInt, n_1, n_2, n_8, Int32.toNatClampNeg, Int64.lt_iff_toInt_lt, Int64.le_iff_toInt_le, ← Int64.toInt_inj, Int64.reduceToInt, Int32.toInt_toInt64, lg_cmp_ge, lg_cmp_le, lg_cmp_gt, lg_cmp_lt, lg_cmp_eq, Bool.false_eq_true, Bool.true_eq_false, reduceCtorEq, false_iff, true_iff, iff_true, iff_false, and_true, true_and, and_false, false_and, reduceIte, ite_true, ite_false, eq_self] at *)) <;> omega) (by ((try simp only [vp_in_iff, Int32.lt_iff_toInt_lt, Int32.le_iff_toInt_le, ← Int32.toInt_inj, Int32.reduceToInt, n_1, n_2, n_8, Int32.toNatClampNeg, Int64.lt_iff_toInt_lt, Int64.le_iff_toInt_le, ← Int64.toInt_inj, Int64.reduceToInt, Int32.toInt_toInt64, lg_cmp_ge, lg_cmp_le, lg_cmp_gt, lg_cmp_lt, lg_cmp_eq, Bool.false_eq_true, Bool.true_eq_false, reduceCtorEq, false_iff, true_iff, iff_true, iff_false, and_true, true_and, and_false, false_and, reduceIte, ite_true, ite_false, eq_self] at *)) <;> omega) | exact no_0 (by decide)), trivial⟩ rfl
  exact hi4 _ _ _ ⟨Fs1, (nxe_gi_si hs1), (by ((try simp only [vp_in_iff, Int32.lt_iff_toInt_lt, Int32.le_iff_toInt_le, ← Int32.toInt_inj, Int32.reduceToInt, n_1, n_2, n_8, Int32.toNatClampNeg, Int64.lt_iff_toInt_lt, Int64.le_iff_toInt_le, ← Int64.toInt_inj, Int64.reduceToInt, Int32.toInt_toInt64, lg_cmp_ge, lg_cmp_le, lg_cmp_gt, lg_cmp_lt, lg_cmp_eq, Bool.false_eq_true, Bool.true_eq_false, reduceCtorEq, false_iff, true_iff, iff_true, iff_false, and_true, true_and, and_false, false_and, reduceIte, ite_true, ite_false, eq_self] at *)) <;> omega), (by first | exact allb_w hs1 (by assumption) (by ((try simp only [vp_in_iff, Int32.lt_iff_toInt_lt, Int32.le_iff_toInt_le, ← Int32.toInt_inj, Int32.reduceToInt, n_1, n_2, n_8, Int32.toNatClampNeg, Int64.lt_iff_toInt_lt, Int64.le_iff_toInt_le, ← Int64.toInt_inj, Int64.reduceToInt, Int32.toInt_toInt64, lg_cmp_ge, lg_cmp_le, lg_cmp_gt, lg_cmp_lt, lg_cmp_eq, Bool.false_eq_true, Bool.true_eq_false, reduceCtorEq, false_iff, true_iff, iff_true, iff_false, and_true, true_and, and_false, false_and, reduceIte, ite_true, ite_false, eq_self] at *)) <;> omega) (by ((try simp only [vp_in_iff, Int32.lt_iff_toInt_lt, Int32.le_iff_toInt_le, ← Int32.toInt_inj, Int32.reduceToInt, n_1, n_2, n_8, Int32.toNatClampNeg, Int64.lt_iff_toInt_lt, Int64.le_iff_toInt_le, ← Int64.toInt_inj, Int64.reduceToInt, Int32.toInt_toInt64, lg_cmp_ge, lg_cmp_le, lg_cmp_gt, lg_cmp_lt, lg_cmp_eq, Bool.false_eq_true, Bool.true_eq_false, reduceCtorEq, false_iff, true_iff, iff_true, iff_false, and_true, true_and, and_false, false_and, reduceIte, ite_true, ite_false, eq_self] at *)) <;> omega) | exact no_0 (by decide)), trivial⟩ rfl
set_option maxHeartbeats 4000000 in
theorem sp_X12_workAt (G : kG9) {d : Nat} (hd : 0 ≤ d) (σ : St) (a0 : Int32) (p1 : 0 ≤ a0.toInt ∧ a0.toInt < 624) (r1 : (gi σ 84 119).toInt ≤ 700) (A_135 : AR ap_135 σ 135) (A_136 : AR ap_136 σ 136) (A_137 : AR ap_137 σ 137) (A_157 : AR ap_157 σ 157) (A_158 : AR ap_158 σ 158) (A_159 : AR ap_159 σ 159) : Ct G M_X12_workAt d [.ref 84, .int a0] σ (fun r σ' => ∃ x : Int32, r = some (.int x) ∧ σ = σ' ∧ ((x.toInt = -1 ∧ ∀ k : Nat, (k : Int) < (gi σ 84 119).toInt → ¬ EQR σ (a0).toNatClampNeg k) ∨ (0 ≤ x.toInt ∧ x.toInt < (gi σ 84 119).toInt ∧ EQR σ (a0).toNatClampNeg (x).toNatClampNeg)) ∧ True) := by
  refine wa_start (by decide) rfl (Nat.le_of_ble_eq_true rfl) (lv := [(0, .ref 84), (1, .int a0)]) rfl o_X12_workAt_0 rfl ?_
  have ua0 := Int32.toInt_lt a0
  have wa0 := Int32.le_toInt a0
  refine wa_iconst (v := 0) (by decide) ?_
  refine wa_istore_nD (lv' := [(2, .int 0), (0, .ref 84), (1, .int a0)]) (i := 2) rfl (by decide) rfl ?_
  refine wa_pick [1, 2, 0] rfl ?_
  have hi2 : ∀ (n9_2 : Nat) (l2 : Int32), ((0 ≤ l2.toInt) ∧ (∀ k : Nat, (k : Int) < l2.toInt → ¬ EQR σ (a0).toNatClampNeg k) ∧ (True)) → (2147483647 - l2.toInt).toNat = n9_2 → WA G M_X12_workAt (ZM G M_X12_workAt d (fun r σ' => ∃ x : Int32, r = some (.int x) ∧ σ = σ' ∧ ((x.toInt = -1 ∧ ∀ k : Nat, (k : Int) < (gi σ 84 119).toInt → ¬ EQR σ (a0).toNatClampNeg k) ∨ (0 ≤ x.toInt ∧ x.toInt < (gi σ 84 119).toInt ∧ EQR σ (a0).toNatClampNeg (x).toNatClampNeg)) ∧ True)) B_X12_workAt_2 [(0, .ref 84), (1, .int a0), (2, .int l2)] [] σ := by
    intro n9_2
    induction n9_2 using Nat.strongRecOn with
    | _ n9_2 ih1 =>
      intro l2  i9 m9_2
      obtain ⟨jhi2_0, jhi2_1, -⟩ := i9
      have ul2 := Int32.toInt_lt l2
      have wl2 := Int32.le_toInt l2
      refine wa_iload_n (i := 2) rfl rfl ?_
      refine wa_aload_n (i := 0) rfl rfl ?_
      refine wa_geti ck_12 fl_12_928 ly_84 ?_
      refine wa_icmp_ge o_X12_workAt_108 (by decide) (fun h3 => ?_) (fun h3 => ?_)
      · refine wa_iconst (v := (-1)) (by decide) ?_
        refine wa_ireturn rfl rfl ?_
        exact ⟨_, rfl, rfl, (by first | exact Or.inr ⟨by ((try simp only [vp_in_iff, Int32.lt_iff_toInt_lt, Int32.le_iff_toInt_le, ← Int32.toInt_inj, Int32.reduceToInt, n_1, n_2, n_8, Int32.toNatClampNeg, Int64.lt_iff_toInt_lt, Int64.le_iff_toInt_le, ← Int64.toInt_inj, Int64.reduceToInt, Int32.toInt_toInt64, lg_cmp_ge, lg_cmp_le, lg_cmp_gt, lg_cmp_lt, lg_cmp_eq, Bool.false_eq_true, Bool.true_eq_false, reduceCtorEq, false_iff, true_iff, iff_true, iff_false, and_true, true_and, and_false, false_and, reduceIte, ite_true, ite_false, eq_self] at *)) <;> omega, by ((try simp only [vp_in_iff, Int32.lt_iff_toInt_lt, Int32.le_iff_toInt_le, ← Int32.toInt_inj, Int32.reduceToInt, n_1, n_2, n_8, Int32.toNatClampNeg, Int64.lt_iff_toInt_lt, Int64.le_iff_toInt_le, ← Int64.toInt_inj, Int64.reduceToInt, Int32.toInt_toInt64, lg_cmp_ge, lg_cmp_le, lg_cmp_gt, lg_cmp_lt, lg_cmp_eq, Bool.false_eq_true, Bool.true_eq_false, reduceCtorEq, false_iff, true_iff, iff_true, iff_false, and_true, true_and, and_false, false_and, reduceIte, ite_true, ite_false, eq_self] at *)) <;> omega, eqr_of (by assumption) (by assumption) (by ((try simp only [vp_in_iff, Int32.lt_iff_toInt_lt, Int32.le_iff_toInt_le, ← Int32.toInt_inj, Int32.reduceToInt, n_1, n_2, n_8, Int32.toNatClampNeg, Int64.lt_iff_toInt_lt, Int64.le_iff_toInt_le, ← Int64.toInt_inj, Int64.reduceToInt, Int32.toInt_toInt64, lg_cmp_ge, lg_cmp_le, lg_cmp_gt, lg_cmp_lt, lg_cmp_eq, Bool.false_eq_true, Bool.true_eq_false, reduceCtorEq, false_iff, true_iff, iff_true, iff_false, and_true, true_and, and_false, false_and, reduceIte, ite_true, ite_false, eq_self] at *)) <;> omega)⟩ | exact Or.inl ⟨by decide, no_end (by assumption) (by ((try simp only [vp_in_iff, Int32.lt_iff_toInt_lt, Int32.le_iff_toInt_le, ← Int32.toInt_inj, Int32.reduceToInt, n_1, n_2, n_8, Int32.toNatClampNeg, Int64.lt_iff_toInt_lt, Int64.le_iff_toInt_le, ← Int64.toInt_inj, Int64.reduceToInt, Int32.toInt_toInt64, lg_cmp_ge, lg_cmp_le, lg_cmp_gt, lg_cmp_lt, lg_cmp_eq, Bool.false_eq_true, Bool.true_eq_false, reduceCtorEq, false_iff, true_iff, iff_true, iff_false, and_true, true_and, and_false, false_and, reduceIte, ite_true, ite_false, eq_self] at *)) <;> omega)⟩), trivial⟩
      · have mh3 := nle_mx h3
        refine wa_aload_n (i := 0) rfl rfl ?_
        refine wa_getr ck_12 fl_12_298 ly_84 rf_84_118 ?_
        refine wa_iload_n (i := 2) rfl rfl ?_
        refine wa_iald ly_135 (by ((try simp only [vp_in_iff, Int32.lt_iff_toInt_lt, Int32.le_iff_toInt_le, ← Int32.toInt_inj, Int32.reduceToInt, n_1, n_2, n_8, Int32.toNatClampNeg, Int64.lt_iff_toInt_lt, Int64.le_iff_toInt_le, ← Int64.toInt_inj, Int64.reduceToInt, Int32.toInt_toInt64, lg_cmp_ge, lg_cmp_le, lg_cmp_gt, lg_cmp_lt, lg_cmp_eq, Bool.false_eq_true, Bool.true_eq_false, reduceCtorEq, false_iff, true_iff, iff_true, iff_false, and_true, true_and, and_false, false_and, reduceIte, ite_true, ite_false, eq_self] at *)) <;> omega) ?_
        refine wa_top (fun v4 hv4 => ?_)
        have rv4 : 0 ≤ v4.toInt ∧ v4.toInt ≤ 12 := by rw [← hv4]; exact ar_at A_135 _
        have qv4 := hv4
        clear hv4
        refine wa_aload_n (i := 0) rfl rfl ?_
        refine wa_getr ck_12 fl_12_232 ly_84 rf_84_88 ?_
        refine wa_iload_n (i := 1) rfl rfl ?_
        refine wa_iald ly_157 (by ((try simp only [vp_in_iff, Int32.lt_iff_toInt_lt, Int32.le_iff_toInt_le, ← Int32.toInt_inj, Int32.reduceToInt, n_1, n_2, n_8, Int32.toNatClampNeg, Int64.lt_iff_toInt_lt, Int64.le_iff_toInt_le, ← Int64.toInt_inj, Int64.reduceToInt, Int32.toInt_toInt64, lg_cmp_ge, lg_cmp_le, lg_cmp_gt, lg_cmp_lt, lg_cmp_eq, Bool.false_eq_true, Bool.true_eq_false, reduceCtorEq, false_iff, true_iff, iff_true, iff_false, and_true, true_and, and_false, false_and, reduceIte, ite_true, ite_false, eq_self] at *)) <;> omega) ?_
        refine wa_top (fun v5 hv5 => ?_)
        have rv5 : 0 ≤ v5.toInt ∧ v5.toInt ≤ 12 := by rw [← hv5]; exact ar_at A_157 _
        have qv5 := hv5
        clear hv5
        refine wa_icmp_ne o_X12_workAt_44 (by decide) (fun h6 => ?_) (fun h6 => ?_)
        · refine wa_iconst (v := 0) (by decide) ?_
          refine wa_istore_nD (lv' := [(3, .int (bI false)), (0, .ref 84), (1, .int a0), (2, .int l2)]) (i := 3) rfl (by decide) rfl ?_
          refine wa_iconst (v := 0) (by decide) ?_
          refine wa_istoreD (lv' := [(4, .int 0), (3, .int (bI false)), (0, .ref 84), (1, .int a0), (2, .int l2)]) (by decide) rfl ?_
          refine wa_pick [2, 3, 4, 1, 0] rfl ?_
          have hi8 : ∀ (n9_49 : Nat) (l3 : Bool) (l4 : Int32), ((0 ≤ l4.toInt) ∧ (0 ≤ l4.toInt ∧ l4.toInt ≤ 4) ∧ (l3 = true ↔ (gi σ 157 (a0).toNatClampNeg = gi σ 135 (l2).toNatClampNeg ∧ gi σ 158 (a0).toNatClampNeg = gi σ 136 (l2).toNatClampNeg) ∧ ∀ v : Nat, (v : Int) < l4.toInt → gi σ 159 (4 * (a0).toNatClampNeg + v) = gi σ 137 (4 * (l2).toNatClampNeg + v)) ∧ (True)) → (2147483647 - l4.toInt).toNat = n9_49 → WA G M_X12_workAt (ZM G M_X12_workAt d (fun r σ' => ∃ x : Int32, r = some (.int x) ∧ σ = σ' ∧ ((x.toInt = -1 ∧ ∀ k : Nat, (k : Int) < (gi σ 84 119).toInt → ¬ EQR σ (a0).toNatClampNeg k) ∨ (0 ≤ x.toInt ∧ x.toInt < (gi σ 84 119).toInt ∧ EQR σ (a0).toNatClampNeg (x).toNatClampNeg)) ∧ True)) B_X12_workAt_49 [(0, .ref 84), (1, .int a0), (2, .int l2), (3, .int (bI l3)), (4, .int l4)] [] σ := by
            intro n9_49
            induction n9_49 using Nat.strongRecOn with
            | _ n9_49 ih7 =>
              intro l3 l4  i9 m9_49
              obtain ⟨jhi8_0, jhi8_1, jhi8_2, -⟩ := i9
              have ul4 := Int32.toInt_lt l4
              have wl4 := Int32.le_toInt l4
              refine wa_iload rfl ?_
              refine wa_iconst (v := 4) (by decide) ?_
              refine wa_icmp_ge o_X12_workAt_96 (by decide) (fun h9 => ?_) (fun h9 => ?_)
              · refine wa_iload_n (i := 3) rfl rfl ?_
                refine wa_if_eq o_X12_workAt_102 (by decide) (fun h10 => ?_) (fun h10 => ?_)
                · replace h10 := bI_f (b := l3) (rfl) h10
                  refine wa_iinc (v := (1)) (lv' := fun y11 => [(2, .int y11), (0, .ref 84), (1, .int a0), (3, .int (bI l3)), (4, .int l4)]) (by decide) rfl (by decide) (fun _ => rfl) (fun y11 hy11 => ?_)
                  have ty11 := i_addT hy11.symm
                  clear hy11
                  refine wa_goto o_X12_workAt_2 (by decide) ?_
                  refine wa_pick [1, 2, 0] rfl ?_
                  exact ih1 _ (by ((try simp only [vp_in_iff, Int32.lt_iff_toInt_lt, Int32.le_iff_toInt_le, ← Int32.toInt_inj, Int32.reduceToInt, n_1, n_2, n_8, Int32.toNatClampNeg, Int64.lt_iff_toInt_lt, Int64.le_iff_toInt_le, ← Int64.toInt_inj, Int64.reduceToInt, Int32.toInt_toInt64, lg_cmp_ge, lg_cmp_le, lg_cmp_gt, lg_cmp_lt, lg_cmp_eq, Bool.false_eq_true, Bool.true_eq_false, reduceCtorEq, false_iff, true_iff, iff_true, iff_false, and_true, true_and, and_false, false_and, reduceIte, ite_true, ite_false, eq_self] at *)) <;> omega) _ ⟨(by ((try simp only [vp_in_iff, Int32.lt_iff_toInt_lt, Int32.le_iff_toInt_le, ← Int32.toInt_inj, Int32.reduceToInt, n_1, n_2, n_8, Int32.toNatClampNeg, Int64.lt_iff_toInt_lt, Int64.le_iff_toInt_le, ← Int64.toInt_inj, Int64.reduceToInt, Int32.toInt_toInt64, lg_cmp_ge, lg_cmp_le, lg_cmp_gt, lg_cmp_lt, lg_cmp_eq, Bool.false_eq_true, Bool.true_eq_false, reduceCtorEq, false_iff, true_iff, iff_true, iff_false, and_true, true_and, and_false, false_and, reduceIte, ite_true, ite_false, eq_self] at *)) <;> omega), (by first | exact no_step (by assumption) (by ((try simp only [vp_in_iff, Int32.lt_iff_toInt_lt, Int32.le_iff_toInt_le, ← Int32.toInt_inj, Int32.reduceToInt, n_1, n_2, n_8, Int32.toNatClampNeg, Int64.lt_iff_toInt_lt, Int64.le_iff_toInt_le, ← Int64.toInt_inj, Int64.reduceToInt, Int32.toInt_toInt64, lg_cmp_ge, lg_cmp_le, lg_cmp_gt, lg_cmp_lt, lg_cmp_eq, Bool.false_eq_true, Bool.true_eq_false, reduceCtorEq, false_iff, true_iff, iff_true, iff_false, and_true, true_and, and_false, false_and, reduceIte, ite_true, ite_false, eq_self] at *)) <;> omega) (by ((try simp only [vp_in_iff, Int32.lt_iff_toInt_lt, Int32.le_iff_toInt_le, ← Int32.toInt_inj, Int32.reduceToInt, n_1, n_2, n_8, Int32.toNatClampNeg, Int64.lt_iff_toInt_lt, Int64.le_iff_toInt_le, ← Int64.toInt_inj, Int64.reduceToInt, Int32.toInt_toInt64, lg_cmp_ge, lg_cmp_le, lg_cmp_gt, lg_cmp_lt, lg_cmp_eq, Bool.false_eq_true, Bool.true_eq_false, reduceCtorEq, false_iff, true_iff, iff_true, iff_false, and_true, true_and, and_false, false_and, reduceIte, ite_true, ite_false, eq_self] at *)) <;> omega) (eqr_not (by assumption) (by assumption) (by ((try simp only [vp_in_iff, Int32.lt_iff_toInt_lt, Int32.le_iff_toInt_le, ← Int32.toInt_inj, Int32.reduceToInt, n_1, n_2, n_8, Int32.toNatClampNeg, Int64.lt_iff_toInt_lt, Int64.le_iff_toInt_le, ← Int64.toInt_inj, Int64.reduceToInt, Int32.toInt_toInt64, lg_cmp_ge, lg_cmp_le, lg_cmp_gt, lg_cmp_lt, lg_cmp_eq, Bool.false_eq_true, Bool.true_eq_false, reduceCtorEq, false_iff, true_iff, iff_true, iff_false, and_true, true_and, and_false, false_and, reduceIte, ite_true, ite_false, eq_self] at *)) <;> omega)) | exact no_0 (by decide)), trivial⟩ rfl
                · replace h10 := bI_t (b := l3) (rfl) h10
                  refine wa_iload_n (i := 2) rfl rfl ?_
                  refine wa_ireturn rfl rfl ?_
                  exact ⟨_, rfl, rfl, (by first | exact Or.inr ⟨by ((try simp only [vp_in_iff, Int32.lt_iff_toInt_lt, Int32.le_iff_toInt_le, ← Int32.toInt_inj, Int32.reduceToInt, n_1, n_2, n_8, Int32.toNatClampNeg, Int64.lt_iff_toInt_lt, Int64.le_iff_toInt_le, ← Int64.toInt_inj, Int64.reduceToInt, Int32.toInt_toInt64, lg_cmp_ge, lg_cmp_le, lg_cmp_gt, lg_cmp_lt, lg_cmp_eq, Bool.false_eq_true, Bool.true_eq_false, reduceCtorEq, false_iff, true_iff, iff_true, iff_false, and_true, true_and, and_false, false_and, reduceIte, ite_true, ite_false, eq_self] at *)) <;> omega, by ((try simp only [vp_in_iff, Int32.lt_iff_toInt_lt, Int32.le_iff_toInt_le, ← Int32.toInt_inj, Int32.reduceToInt, n_1, n_2, n_8, Int32.toNatClampNeg, Int64.lt_iff_toInt_lt, Int64.le_iff_toInt_le, ← Int64.toInt_inj, Int64.reduceToInt, Int32.toInt_toInt64, lg_cmp_ge, lg_cmp_le, lg_cmp_gt, lg_cmp_lt, lg_cmp_eq, Bool.false_eq_true, Bool.true_eq_false, reduceCtorEq, false_iff, true_iff, iff_true, iff_false, and_true, true_and, and_false, false_and, reduceIte, ite_true, ite_false, eq_self] at *)) <;> omega, eqr_of (by assumption) (by assumption) (by ((try simp only [vp_in_iff, Int32.lt_iff_toInt_lt, Int32.le_iff_toInt_le, ← Int32.toInt_inj, Int32.reduceToInt, n_1, n_2, n_8, Int32.toNatClampNeg, Int64.lt_iff_toInt_lt, Int64.le_iff_toInt_le, ← Int64.toInt_inj, Int64.reduceToInt, Int32.toInt_toInt64, lg_cmp_ge, lg_cmp_le, lg_cmp_gt, lg_cmp_lt, lg_cmp_eq, Bool.false_eq_true, Bool.true_eq_false, reduceCtorEq, false_iff, true_iff, iff_true, iff_false, and_true, true_and, and_false, false_and, reduceIte, ite_true, ite_false, eq_self] at *)) <;> omega)⟩ | exact Or.inl ⟨by decide, no_end (by assumption) (by ((try simp only [vp_in_iff, Int32.lt_iff_toInt_lt, Int32.le_iff_toInt_le, ← Int32.toInt_inj, Int32.reduceToInt, n_1, n_2, n_8, Int32.toNatClampNeg, Int64.lt_iff_toInt_lt, Int64.le_iff_toInt_le, ← Int64.toInt_inj, Int64.reduceToInt, Int32.toInt_toInt64, lg_cmp_ge, lg_cmp_le, lg_cmp_gt, lg_cmp_lt, lg_cmp_eq, Bool.false_eq_true, Bool.true_eq_false, reduceCtorEq, false_iff, true_iff, iff_true, iff_false, and_true, true_and, and_false, false_and, reduceIte, ite_true, ite_false, eq_self] at *)) <;> omega)⟩), trivial⟩
              · have mh9 := nle_mx h9
                refine wa_iload_n (i := 3) rfl rfl ?_
                refine wa_if_eq o_X12_workAt_88 (by decide) (fun h12 => ?_) (fun h12 => ?_)
                · replace h12 := bI_f (b := l3) (rfl) h12
                  refine wa_iconst (v := 0) (by decide) ?_
                  refine wa_istore_nD (lv' := [(3, .int (bI false)), (0, .ref 84), (1, .int a0), (2, .int l2), (4, .int l4)]) (i := 3) rfl (by decide) rfl ?_
                  refine wa_iinc (v := (1)) (lv' := fun y13 => [(4, .int y13), (3, .int (bI false)), (0, .ref 84), (1, .int a0), (2, .int l2)]) (by decide) rfl (by decide) (fun _ => rfl) (fun y13 hy13 => ?_)
                  have ty13 := i_addT hy13.symm
                  clear hy13
                  refine wa_goto o_X12_workAt_49 (by decide) ?_
                  refine wa_pick [2, 3, 4, 1, 0] rfl ?_
                  exact ih7 _ (by ((try simp only [vp_in_iff, Int32.lt_iff_toInt_lt, Int32.le_iff_toInt_le, ← Int32.toInt_inj, Int32.reduceToInt, n_1, n_2, n_8, Int32.toNatClampNeg, Int64.lt_iff_toInt_lt, Int64.le_iff_toInt_le, ← Int64.toInt_inj, Int64.reduceToInt, Int32.toInt_toInt64, lg_cmp_ge, lg_cmp_le, lg_cmp_gt, lg_cmp_lt, lg_cmp_eq, Bool.false_eq_true, Bool.true_eq_false, reduceCtorEq, false_iff, true_iff, iff_true, iff_false, and_true, true_and, and_false, false_and, reduceIte, ite_true, ite_false, eq_self] at *)) <;> omega) _ _ ⟨(by ((try simp only [vp_in_iff, Int32.lt_iff_toInt_lt, Int32.le_iff_toInt_le, ← Int32.toInt_inj, Int32.reduceToInt, n_1, n_2, n_8, Int32.toNatClampNeg, Int64.lt_iff_toInt_lt, Int64.le_iff_toInt_le, ← Int64.toInt_inj, Int64.reduceToInt, Int32.toInt_toInt64, lg_cmp_ge, lg_cmp_le, lg_cmp_gt, lg_cmp_lt, lg_cmp_eq, Bool.false_eq_true, Bool.true_eq_false, reduceCtorEq, false_iff, true_iff, iff_true, iff_false, and_true, true_and, and_false, false_and, reduceIte, ite_true, ite_false, eq_self] at *)) <;> omega), (by ((try simp only [vp_in_iff, Int32.lt_iff_toInt_lt, Int32.le_iff_toInt_le, ← Int32.toInt_inj, Int32.reduceToInt, n_1, n_2, n_8, Int32.toNatClampNeg, Int64.lt_iff_toInt_lt, Int64.le_iff_toInt_le, ← Int64.toInt_inj, Int64.reduceToInt, Int32.toInt_toInt64, lg_cmp_ge, lg_cmp_le, lg_cmp_gt, lg_cmp_lt, lg_cmp_eq, Bool.false_eq_true, Bool.true_eq_false, reduceCtorEq, false_iff, true_iff, iff_true, iff_false, and_true, true_and, and_false, false_and, reduceIte, ite_true, ite_false, eq_self] at *)) <;> omega), (by first | exact bs_0t (by decide) (by grind) | exact bs_0f (by decide) (by grind) | exact bs_ff (by assumption) (by assumption) (by ((try simp only [vp_in_iff, Int32.lt_iff_toInt_lt, Int32.le_iff_toInt_le, ← Int32.toInt_inj, Int32.reduceToInt, n_1, n_2, n_8, Int32.toNatClampNeg, Int64.lt_iff_toInt_lt, Int64.le_iff_toInt_le, ← Int64.toInt_inj, Int64.reduceToInt, Int32.toInt_toInt64, lg_cmp_ge, lg_cmp_le, lg_cmp_gt, lg_cmp_lt, lg_cmp_eq, Bool.false_eq_true, Bool.true_eq_false, reduceCtorEq, false_iff, true_iff, iff_true, iff_false, and_true, true_and, and_false, false_and, reduceIte, ite_true, ite_false, eq_self] at *)) <;> omega) | exact bs_tt (by assumption) (by assumption) (by ((try simp only [vp_in_iff, Int32.lt_iff_toInt_lt, Int32.le_iff_toInt_le, ← Int32.toInt_inj, Int32.reduceToInt, n_1, n_2, n_8, Int32.toNatClampNeg, Int64.lt_iff_toInt_lt, Int64.le_iff_toInt_le, ← Int64.toInt_inj, Int64.reduceToInt, Int32.toInt_toInt64, lg_cmp_ge, lg_cmp_le, lg_cmp_gt, lg_cmp_lt, lg_cmp_eq, Bool.false_eq_true, Bool.true_eq_false, reduceCtorEq, false_iff, true_iff, iff_true, iff_false, and_true, true_and, and_false, false_and, reduceIte, ite_true, ite_false, eq_self] at *)) <;> omega) (by ((try simp only [vp_in_iff, Int32.lt_iff_toInt_lt, Int32.le_iff_toInt_le, ← Int32.toInt_inj, Int32.reduceToInt, n_1, n_2, n_8, Int32.toNatClampNeg, Int64.lt_iff_toInt_lt, Int64.le_iff_toInt_le, ← Int64.toInt_inj, Int64.reduceToInt, Int32.toInt_toInt64, lg_cmp_ge, lg_cmp_le, lg_cmp_gt, lg_cmp_lt, lg_cmp_eq, Bool.false_eq_true, Bool.true_eq_false, reduceCtorEq, false_iff, true_iff, iff_true, iff_false, and_true, true_and, and_false, false_and, reduceIte, ite_true, ite_false, eq_self] at *)) <;> omega) (by grind) | exact bs_tf (by ((try simp only [vp_in_iff, Int32.lt_iff_toInt_lt, Int32.le_iff_toInt_le, ← Int32.toInt_inj, Int32.reduceToInt, n_1, n_2, n_8, Int32.toNatClampNeg, Int64.lt_iff_toInt_lt, Int64.le_iff_toInt_le, ← Int64.toInt_inj, Int64.reduceToInt, Int32.toInt_toInt64, lg_cmp_ge, lg_cmp_le, lg_cmp_gt, lg_cmp_lt, lg_cmp_eq, Bool.false_eq_true, Bool.true_eq_false, reduceCtorEq, false_iff, true_iff, iff_true, iff_false, and_true, true_and, and_false, false_and, reduceIte, ite_true, ite_false, eq_self] at *)) <;> omega) (by ((try simp only [vp_in_iff, Int32.lt_iff_toInt_lt, Int32.le_iff_toInt_le, ← Int32.toInt_inj, Int32.reduceToInt, n_1, n_2, n_8, Int32.toNatClampNeg, Int64.lt_iff_toInt_lt, Int64.le_iff_toInt_le, ← Int64.toInt_inj, Int64.reduceToInt, Int32.toInt_toInt64, lg_cmp_ge, lg_cmp_le, lg_cmp_gt, lg_cmp_lt, lg_cmp_eq, Bool.false_eq_true, Bool.true_eq_false, reduceCtorEq, false_iff, true_iff, iff_true, iff_false, and_true, true_and, and_false, false_and, reduceIte, ite_true, ite_false, eq_self] at *)) <;> omega) (by grind)), trivial⟩ rfl
                · replace h12 := bI_t (b := l3) (rfl) h12
                  refine wa_aload_n (i := 0) rfl rfl ?_
                  refine wa_getr ck_12 fl_12_292 ly_84 rf_84_116 ?_
                  refine wa_iconst (v := 4) (by decide) ?_
                  refine wa_iload_n (i := 2) rfl rfl ?_
                  refine wa_imul ?_
                  refine wa_top (fun v14 hv14 => ?_)
                  have tv14 := i_mulT hv14
                  clear hv14
                  refine wa_iload rfl ?_
                  refine wa_iadd ?_
                  refine wa_top (fun v15 hv15 => ?_)
                  have tv15 := i_addT hv15
                  clear hv15
                  refine wa_iald ly_137 (by ((try simp only [vp_in_iff, Int32.lt_iff_toInt_lt, Int32.le_iff_toInt_le, ← Int32.toInt_inj, Int32.reduceToInt, n_1, n_2, n_8, Int32.toNatClampNeg, Int64.lt_iff_toInt_lt, Int64.le_iff_toInt_le, ← Int64.toInt_inj, Int64.reduceToInt, Int32.toInt_toInt64, lg_cmp_ge, lg_cmp_le, lg_cmp_gt, lg_cmp_lt, lg_cmp_eq, Bool.false_eq_true, Bool.true_eq_false, reduceCtorEq, false_iff, true_iff, iff_true, iff_false, and_true, true_and, and_false, false_and, reduceIte, ite_true, ite_false, eq_self] at *)) <;> omega) ?_
                  refine wa_top (fun v16 hv16 => ?_)
                  have rv16 : -20 ≤ v16.toInt ∧ v16.toInt ≤ 20 := by rw [← hv16]; exact ar_at A_137 _
                  have qv16 : gi σ 137 (4 * (l2).toNatClampNeg + (l4).toNatClampNeg) = v16 := by rw [show 4 * (l2).toNatClampNeg + (l4).toNatClampNeg = (v15).toNatClampNeg from by ((try simp only [vp_in_iff, Int32.lt_iff_toInt_lt, Int32.le_iff_toInt_le, ← Int32.toInt_inj, Int32.reduceToInt, n_1, n_2, n_8, Int32.toNatClampNeg, Int64.lt_iff_toInt_lt, Int64.le_iff_toInt_le, ← Int64.toInt_inj, Int64.reduceToInt, Int32.toInt_toInt64, lg_cmp_ge, lg_cmp_le, lg_cmp_gt, lg_cmp_lt, lg_cmp_eq, Bool.false_eq_true, Bool.true_eq_false, reduceCtorEq, false_iff, true_iff, iff_true, iff_false, and_true, true_and, and_false, false_and, reduceIte, ite_true, ite_false, eq_self] at *)) <;> omega]; exact hv16
                  clear hv16
                  refine wa_aload_n (i := 0) rfl rfl ?_
                  refine wa_getr ck_12 fl_12_226 ly_84 rf_84_86 ?_
                  refine wa_iconst (v := 4) (by decide) ?_
                  refine wa_iload_n (i := 1) rfl rfl ?_
                  refine wa_imul ?_
                  refine wa_top (fun v17 hv17 => ?_)
                  have tv17 := i_mulT hv17
                  clear hv17
                  refine wa_iload rfl ?_
                  refine wa_iadd ?_
                  refine wa_top (fun v18 hv18 => ?_)
                  have tv18 := i_addT hv18
                  clear hv18
                  refine wa_iald ly_159 (by ((try simp only [vp_in_iff, Int32.lt_iff_toInt_lt, Int32.le_iff_toInt_le, ← Int32.toInt_inj, Int32.reduceToInt, n_1, n_2, n_8, Int32.toNatClampNeg, Int64.lt_iff_toInt_lt, Int64.le_iff_toInt_le, ← Int64.toInt_inj, Int64.reduceToInt, Int32.toInt_toInt64, lg_cmp_ge, lg_cmp_le, lg_cmp_gt, lg_cmp_lt, lg_cmp_eq, Bool.false_eq_true, Bool.true_eq_false, reduceCtorEq, false_iff, true_iff, iff_true, iff_false, and_true, true_and, and_false, false_and, reduceIte, ite_true, ite_false, eq_self] at *)) <;> omega) ?_
                  refine wa_top (fun v19 hv19 => ?_)
                  have rv19 : -20 ≤ v19.toInt ∧ v19.toInt ≤ 20 := by rw [← hv19]; exact ar_at A_159 _
                  have qv19 : gi σ 159 (4 * (a0).toNatClampNeg + (l4).toNatClampNeg) = v19 := by rw [show 4 * (a0).toNatClampNeg + (l4).toNatClampNeg = (v18).toNatClampNeg from by ((try simp only [vp_in_iff, Int32.lt_iff_toInt_lt, Int32.le_iff_toInt_le, ← Int32.toInt_inj, Int32.reduceToInt, n_1, n_2, n_8, Int32.toNatClampNeg, Int64.lt_iff_toInt_lt, Int64.le_iff_toInt_le, ← Int64.toInt_inj, Int64.reduceToInt, Int32.toInt_toInt64, lg_cmp_ge, lg_cmp_le, lg_cmp_gt, lg_cmp_lt, lg_cmp_eq, Bool.false_eq_true, Bool.true_eq_false, reduceCtorEq, false_iff, true_iff, iff_true, iff_false, and_true, true_and, and_false, false_and, reduceIte, ite_true, ite_false, eq_self] at *)) <;> omega]; exact hv19
                  clear hv19
                  refine wa_icmp_ne o_X12_workAt_88 (by decide) (fun h20 => ?_) (fun h20 => ?_)
                  · refine wa_iconst (v := 0) (by decide) ?_
                    refine wa_istore_nD (lv' := [(3, .int (bI false)), (0, .ref 84), (1, .int a0), (2, .int l2), (4, .int l4)]) (i := 3) rfl (by decide) rfl ?_
                    refine wa_iinc (v := (1)) (lv' := fun y21 => [(4, .int y21), (3, .int (bI false)), (0, .ref 84), (1, .int a0), (2, .int l2)]) (by decide) rfl (by decide) (fun _ => rfl) (fun y21 hy21 => ?_)
                    have ty21 := i_addT hy21.symm
                    clear hy21
                    refine wa_goto o_X12_workAt_49 (by decide) ?_
                    refine wa_pick [2, 3, 4, 1, 0] rfl ?_
                    exact ih7 _ (by ((try simp only [vp_in_iff, Int32.lt_iff_toInt_lt, Int32.le_iff_toInt_le, ← Int32.toInt_inj, Int32.reduceToInt, n_1, n_2, n_8, Int32.toNatClampNeg, Int64.lt_iff_toInt_lt, Int64.le_iff_toInt_le, ← Int64.toInt_inj, Int64.reduceToInt, Int32.toInt_toInt64, lg_cmp_ge, lg_cmp_le, lg_cmp_gt, lg_cmp_lt, lg_cmp_eq, Bool.false_eq_true, Bool.true_eq_false, reduceCtorEq, false_iff, true_iff, iff_true, iff_false, and_true, true_and, and_false, false_and, reduceIte, ite_true, ite_false, eq_self] at *)) <;> omega) _ _ ⟨(by ((try simp only [vp_in_iff, Int32.lt_iff_toInt_lt, Int32.le_iff_toInt_le, ← Int32.toInt_inj, Int32.reduceToInt, n_1, n_2, n_8, Int32.toNatClampNeg, Int64.lt_iff_toInt_lt, Int64.le_iff_toInt_le, ← Int64.toInt_inj, Int64.reduceToInt, Int32.toInt_toInt64, lg_cmp_ge, lg_cmp_le, lg_cmp_gt, lg_cmp_lt, lg_cmp_eq, Bool.false_eq_true, Bool.true_eq_false, reduceCtorEq, false_iff, true_iff, iff_true, iff_false, and_true, true_and, and_false, false_and, reduceIte, ite_true, ite_false, eq_self] at *)) <;> omega), (by ((try simp only [vp_in_iff, Int32.lt_iff_toInt_lt, Int32.le_iff_toInt_le, ← Int32.toInt_inj, Int32.reduceToInt, n_1, n_2, n_8, Int32.toNatClampNeg, Int64.lt_iff_toInt_lt, Int64.le_iff_toInt_le, ← Int64.toInt_inj, Int64.reduceToInt, Int32.toInt_toInt64, lg_cmp_ge, lg_cmp_le, lg_cmp_gt, lg_cmp_lt, lg_cmp_eq, Bool.false_eq_true, Bool.true_eq_false, reduceCtorEq, false_iff, true_iff, iff_true, iff_false, and_true, true_and, and_false, false_and, reduceIte, ite_true, ite_false, eq_self] at *)) <;> omega), (by first | exact bs_0t (by decide) (by grind) | exact bs_0f (by decide) (by grind) | exact bs_ff (by assumption) (by assumption) (by ((try simp only [vp_in_iff, Int32.lt_iff_toInt_lt, Int32.le_iff_toInt_le, ← Int32.toInt_inj, Int32.reduceToInt, n_1, n_2, n_8, Int32.toNatClampNeg, Int64.lt_iff_toInt_lt, Int64.le_iff_toInt_le, ← Int64.toInt_inj, Int64.reduceToInt, Int32.toInt_toInt64, lg_cmp_ge, lg_cmp_le, lg_cmp_gt, lg_cmp_lt, lg_cmp_eq, Bool.false_eq_true, Bool.true_eq_false, reduceCtorEq, false_iff, true_iff, iff_true, iff_false, and_true, true_and, and_false, false_and, reduceIte, ite_true, ite_false, eq_self] at *)) <;> omega) | exact bs_tt (by assumption) (by assumption) (by ((try simp only [vp_in_iff, Int32.lt_iff_toInt_lt, Int32.le_iff_toInt_le, ← Int32.toInt_inj, Int32.reduceToInt, n_1, n_2, n_8, Int32.toNatClampNeg, Int64.lt_iff_toInt_lt, Int64.le_iff_toInt_le, ← Int64.toInt_inj, Int64.reduceToInt, Int32.toInt_toInt64, lg_cmp_ge, lg_cmp_le, lg_cmp_gt, lg_cmp_lt, lg_cmp_eq, Bool.false_eq_true, Bool.true_eq_false, reduceCtorEq, false_iff, true_iff, iff_true, iff_false, and_true, true_and, and_false, false_and, reduceIte, ite_true, ite_false, eq_self] at *)) <;> omega) (by ((try simp only [vp_in_iff, Int32.lt_iff_toInt_lt, Int32.le_iff_toInt_le, ← Int32.toInt_inj, Int32.reduceToInt, n_1, n_2, n_8, Int32.toNatClampNeg, Int64.lt_iff_toInt_lt, Int64.le_iff_toInt_le, ← Int64.toInt_inj, Int64.reduceToInt, Int32.toInt_toInt64, lg_cmp_ge, lg_cmp_le, lg_cmp_gt, lg_cmp_lt, lg_cmp_eq, Bool.false_eq_true, Bool.true_eq_false, reduceCtorEq, false_iff, true_iff, iff_true, iff_false, and_true, true_and, and_false, false_and, reduceIte, ite_true, ite_false, eq_self] at *)) <;> omega) (by grind) | exact bs_tf (by ((try simp only [vp_in_iff, Int32.lt_iff_toInt_lt, Int32.le_iff_toInt_le, ← Int32.toInt_inj, Int32.reduceToInt, n_1, n_2, n_8, Int32.toNatClampNeg, Int64.lt_iff_toInt_lt, Int64.le_iff_toInt_le, ← Int64.toInt_inj, Int64.reduceToInt, Int32.toInt_toInt64, lg_cmp_ge, lg_cmp_le, lg_cmp_gt, lg_cmp_lt, lg_cmp_eq, Bool.false_eq_true, Bool.true_eq_false, reduceCtorEq, false_iff, true_iff, iff_true, iff_false, and_true, true_and, and_false, false_and, reduceIte, ite_true, ite_false, eq_self] at *)) <;> omega) (by ((try simp only [vp_in_iff, Int32.lt_iff_toInt_lt, Int32.le_iff_toInt_le, ← Int32.toInt_inj, Int32.reduceToInt, n_1, n_2, n_8, Int32.toNatClampNeg, Int64.lt_iff_toInt_lt, Int64.le_iff_toInt_le, ← Int64.toInt_inj, Int64.reduceToInt, Int32.toInt_toInt64, lg_cmp_ge, lg_cmp_le, lg_cmp_gt, lg_cmp_lt, lg_cmp_eq, Bool.false_eq_true, Bool.true_eq_false, reduceCtorEq, false_iff, true_iff, iff_true, iff_false, and_true, true_and, and_false, false_and, reduceIte, ite_true, ite_false, eq_self] at *)) <;> omega) (by grind)), trivial⟩ rfl
                  · refine wa_iconst (v := 1) (by decide) ?_
                    refine wa_goto o_X12_workAt_89 (by decide) ?_
                    refine wa_istore_nD (lv' := [(3, .int (bI true)), (0, .ref 84), (1, .int a0), (2, .int l2), (4, .int l4)]) (i := 3) rfl (by decide) rfl ?_
                    refine wa_iinc (v := (1)) (lv' := fun y22 => [(4, .int y22), (3, .int (bI true)), (0, .ref 84), (1, .int a0), (2, .int l2)]) (by decide) rfl (by decide) (fun _ => rfl) (fun y22 hy22 => ?_)
                    have ty22 := i_addT hy22.symm
                    clear hy22
                    refine wa_goto o_X12_workAt_49 (by decide) ?_
                    refine wa_pick [2, 3, 4, 1, 0] rfl ?_
                    exact ih7 _ (by ((try simp only [vp_in_iff, Int32.lt_iff_toInt_lt, Int32.le_iff_toInt_le, ← Int32.toInt_inj, Int32.reduceToInt, n_1, n_2, n_8, Int32.toNatClampNeg, Int64.lt_iff_toInt_lt, Int64.le_iff_toInt_le, ← Int64.toInt_inj, Int64.reduceToInt, Int32.toInt_toInt64, lg_cmp_ge, lg_cmp_le, lg_cmp_gt, lg_cmp_lt, lg_cmp_eq, Bool.false_eq_true, Bool.true_eq_false, reduceCtorEq, false_iff, true_iff, iff_true, iff_false, and_true, true_and, and_false, false_and, reduceIte, ite_true, ite_false, eq_self] at *)) <;> omega) _ _ ⟨(by ((try simp only [vp_in_iff, Int32.lt_iff_toInt_lt, Int32.le_iff_toInt_le, ← Int32.toInt_inj, Int32.reduceToInt, n_1, n_2, n_8, Int32.toNatClampNeg, Int64.lt_iff_toInt_lt, Int64.le_iff_toInt_le, ← Int64.toInt_inj, Int64.reduceToInt, Int32.toInt_toInt64, lg_cmp_ge, lg_cmp_le, lg_cmp_gt, lg_cmp_lt, lg_cmp_eq, Bool.false_eq_true, Bool.true_eq_false, reduceCtorEq, false_iff, true_iff, iff_true, iff_false, and_true, true_and, and_false, false_and, reduceIte, ite_true, ite_false, eq_self] at *)) <;> omega), (by ((try simp only [vp_in_iff, Int32.lt_iff_toInt_lt, Int32.le_iff_toInt_le, ← Int32.toInt_inj, Int32.reduceToInt, n_1, n_2, n_8, Int32.toNatClampNeg, Int64.lt_iff_toInt_lt, Int64.le_iff_toInt_le, ← Int64.toInt_inj, Int64.reduceToInt, Int32.toInt_toInt64, lg_cmp_ge, lg_cmp_le, lg_cmp_gt, lg_cmp_lt, lg_cmp_eq, Bool.false_eq_true, Bool.true_eq_false, reduceCtorEq, false_iff, true_iff, iff_true, iff_false, and_true, true_and, and_false, false_and, reduceIte, ite_true, ite_false, eq_self] at *)) <;> omega), (by first | exact bs_0t (by decide) (by grind) | exact bs_0f (by decide) (by grind) | exact bs_ff (by assumption) (by assumption) (by ((try simp only [vp_in_iff, Int32.lt_iff_toInt_lt, Int32.le_iff_toInt_le, ← Int32.toInt_inj, Int32.reduceToInt, n_1, n_2, n_8, Int32.toNatClampNeg, Int64.lt_iff_toInt_lt, Int64.le_iff_toInt_le, ← Int64.toInt_inj, Int64.reduceToInt, Int32.toInt_toInt64, lg_cmp_ge, lg_cmp_le, lg_cmp_gt, lg_cmp_lt, lg_cmp_eq, Bool.false_eq_true, Bool.true_eq_false, reduceCtorEq, false_iff, true_iff, iff_true, iff_false, and_true, true_and, and_false, false_and, reduceIte, ite_true, ite_false, eq_self] at *)) <;> omega) | exact bs_tt (by assumption) (by assumption) (by ((try simp only [vp_in_iff, Int32.lt_iff_toInt_lt, Int32.le_iff_toInt_le, ← Int32.toInt_inj, Int32.reduceToInt, n_1, n_2, n_8, Int32.toNatClampNeg, Int64.lt_iff_toInt_lt, Int64.le_iff_toInt_le, ← Int64.toInt_inj, Int64.reduceToInt, Int32.toInt_toInt64, lg_cmp_ge, lg_cmp_le, lg_cmp_gt, lg_cmp_lt, lg_cmp_eq, Bool.false_eq_true, Bool.true_eq_false, reduceCtorEq, false_iff, true_iff, iff_true, iff_false, and_true, true_and, and_false, false_and, reduceIte, ite_true, ite_false, eq_self] at *)) <;> omega) (by ((try simp only [vp_in_iff, Int32.lt_iff_toInt_lt, Int32.le_iff_toInt_le, ← Int32.toInt_inj, Int32.reduceToInt, n_1, n_2, n_8, Int32.toNatClampNeg, Int64.lt_iff_toInt_lt, Int64.le_iff_toInt_le, ← Int64.toInt_inj, Int64.reduceToInt, Int32.toInt_toInt64, lg_cmp_ge, lg_cmp_le, lg_cmp_gt, lg_cmp_lt, lg_cmp_eq, Bool.false_eq_true, Bool.true_eq_false, reduceCtorEq, false_iff, true_iff, iff_true, iff_false, and_true, true_and, and_false, false_and, reduceIte, ite_true, ite_false, eq_self] at *)) <;> omega) (by grind) | exact bs_tf (by ((try simp only [vp_in_iff, Int32.lt_iff_toInt_lt, Int32.le_iff_toInt_le, ← Int32.toInt_inj, Int32.reduceToInt, n_1, n_2, n_8, Int32.toNatClampNeg, Int64.lt_iff_toInt_lt, Int64.le_iff_toInt_le, ← Int64.toInt_inj, Int64.reduceToInt, Int32.toInt_toInt64, lg_cmp_ge, lg_cmp_le, lg_cmp_gt, lg_cmp_lt, lg_cmp_eq, Bool.false_eq_true, Bool.true_eq_false, reduceCtorEq, false_iff, true_iff, iff_true, iff_false, and_true, true_and, and_false, false_and, reduceIte, ite_true, ite_false, eq_self] at *)) <;> omega) (by ((try simp only [vp_in_iff, Int32.lt_iff_toInt_lt, Int32.le_iff_toInt_le, ← Int32.toInt_inj, Int32.reduceToInt, n_1, n_2, n_8, Int32.toNatClampNeg, Int64.lt_iff_toInt_lt, Int64.le_iff_toInt_le, ← Int64.toInt_inj, Int64.reduceToInt, Int32.toInt_toInt64, lg_cmp_ge, lg_cmp_le, lg_cmp_gt, lg_cmp_lt, lg_cmp_eq, Bool.false_eq_true, Bool.true_eq_false, reduceCtorEq, false_iff, true_iff, iff_true, iff_false, and_true, true_and, and_false, false_and, reduceIte, ite_true, ite_false, eq_self] at *)) <;> omega) (by grind)), trivial⟩ rfl
          exact hi8 _ _ _ ⟨(by ((try simp only [vp_in_iff, Int32.lt_iff_toInt_lt, Int32.le_iff_toInt_le, ← Int32.toInt_inj, Int32.reduceToInt, n_1, n_2, n_8, Int32.toNatClampNeg, Int64.lt_iff_toInt_lt, Int64.le_iff_toInt_le, ← Int64.toInt_inj, Int64.reduceToInt, Int32.toInt_toInt64, lg_cmp_ge, lg_cmp_le, lg_cmp_gt, lg_cmp_lt, lg_cmp_eq, Bool.false_eq_true, Bool.true_eq_false, reduceCtorEq, false_iff, true_iff, iff_true, iff_false, and_true, true_and, and_false, false_and, reduceIte, ite_true, ite_false, eq_self] at *)) <;> omega), (by ((try simp only [vp_in_iff, Int32.lt_iff_toInt_lt, Int32.le_iff_toInt_le, ← Int32.toInt_inj, Int32.reduceToInt, n_1, n_2, n_8, Int32.toNatClampNeg, Int64.lt_iff_toInt_lt, Int64.le_iff_toInt_le, ← Int64.toInt_inj, Int64.reduceToInt, Int32.toInt_toInt64, lg_cmp_ge, lg_cmp_le, lg_cmp_gt, lg_cmp_lt, lg_cmp_eq, Bool.false_eq_true, Bool.true_eq_false, reduceCtorEq, false_iff, true_iff, iff_true, iff_false, and_true, true_and, and_false, false_and, reduceIte, ite_true, ite_false, eq_self] at *)) <;> omega), (by first | exact bs_0t (by decide) (by grind) | exact bs_0f (by decide) (by grind) | exact bs_ff (by assumption) (by assumption) (by ((try simp only [vp_in_iff, Int32.lt_iff_toInt_lt, Int32.le_iff_toInt_le, ← Int32.toInt_inj, Int32.reduceToInt, n_1, n_2, n_8, Int32.toNatClampNeg, Int64.lt_iff_toInt_lt, Int64.le_iff_toInt_le, ← Int64.toInt_inj, Int64.reduceToInt, Int32.toInt_toInt64, lg_cmp_ge, lg_cmp_le, lg_cmp_gt, lg_cmp_lt, lg_cmp_eq, Bool.false_eq_true, Bool.true_eq_false, reduceCtorEq, false_iff, true_iff, iff_true, iff_false, and_true, true_and, and_false, false_and, reduceIte, ite_true, ite_false, eq_self] at *)) <;> omega) | exact bs_tt (by assumption) (by assumption) (by ((try simp only [vp_in_iff, Int32.lt_iff_toInt_lt, Int32.le_iff_toInt_le, ← Int32.toInt_inj, Int32.reduceToInt, n_1, n_2, n_8, Int32.toNatClampNeg, Int64.lt_iff_toInt_lt, Int64.le_iff_toInt_le, ← Int64.toInt_inj, Int64.reduceToInt, Int32.toInt_toInt64, lg_cmp_ge, lg_cmp_le, lg_cmp_gt, lg_cmp_lt, lg_cmp_eq, Bool.false_eq_true, Bool.true_eq_false, reduceCtorEq, false_iff, true_iff, iff_true, iff_false, and_true, true_and, and_false, false_and, reduceIte, ite_true, ite_false, eq_self] at *)) <;> omega) (by ((try simp only [vp_in_iff, Int32.lt_iff_toInt_lt, Int32.le_iff_toInt_le, ← Int32.toInt_inj, Int32.reduceToInt, n_1, n_2, n_8, Int32.toNatClampNeg, Int64.lt_iff_toInt_lt, Int64.le_iff_toInt_le, ← Int64.toInt_inj, Int64.reduceToInt, Int32.toInt_toInt64, lg_cmp_ge, lg_cmp_le, lg_cmp_gt, lg_cmp_lt, lg_cmp_eq, Bool.false_eq_true, Bool.true_eq_false, reduceCtorEq, false_iff, true_iff, iff_true, iff_false, and_true, true_and, and_false, false_and, reduceIte, ite_true, ite_false, eq_self] at *)) <;> omega) (by grind) | exact bs_tf (by ((try simp only [vp_in_iff, Int32.lt_iff_toInt_lt, Int32.le_iff_toInt_le, ← Int32.toInt_inj, Int32.reduceToInt, n_1, n_2, n_8, Int32.toNatClampNeg, Int64.lt_iff_toInt_lt, Int64.le_iff_toInt_le, ← Int64.toInt_inj, Int64.reduceToInt, Int32.toInt_toInt64, lg_cmp_ge, lg_cmp_le, lg_cmp_gt, lg_cmp_lt, lg_cmp_eq, Bool.false_eq_true, Bool.true_eq_false, reduceCtorEq, false_iff, true_iff, iff_true, iff_false, and_true, true_and, and_false, false_and, reduceIte, ite_true, ite_false, eq_self] at *)) <;> omega) (by ((try simp only [vp_in_iff, Int32.lt_iff_toInt_lt, Int32.le_iff_toInt_le, ← Int32.toInt_inj, Int32.reduceToInt, n_1, n_2, n_8, Int32.toNatClampNeg, Int64.lt_iff_toInt_lt, Int64.le_iff_toInt_le, ← Int64.toInt_inj, Int64.reduceToInt, Int32.toInt_toInt64, lg_cmp_ge, lg_cmp_le, lg_cmp_gt, lg_cmp_lt, lg_cmp_eq, Bool.false_eq_true, Bool.true_eq_false, reduceCtorEq, false_iff, true_iff, iff_true, iff_false, and_true, true_and, and_false, false_and, reduceIte, ite_true, ite_false, eq_self] at *)) <;> omega) (by grind)), trivial⟩ rfl
        · refine wa_aload_n (i := 0) rfl rfl ?_
          refine wa_getr ck_12 fl_12_295 ly_84 rf_84_117 ?_
          refine wa_iload_n (i := 2) rfl rfl ?_
          refine wa_iald ly_136 (by ((try simp only [vp_in_iff, Int32.lt_iff_toInt_lt, Int32.le_iff_toInt_le, ← Int32.toInt_inj, Int32.reduceToInt, n_1, n_2, n_8, Int32.toNatClampNeg, Int64.lt_iff_toInt_lt, Int64.le_iff_toInt_le, ← Int64.toInt_inj, Int64.reduceToInt, Int32.toInt_toInt64, lg_cmp_ge, lg_cmp_le, lg_cmp_gt, lg_cmp_lt, lg_cmp_eq, Bool.false_eq_true, Bool.true_eq_false, reduceCtorEq, false_iff, true_iff, iff_true, iff_false, and_true, true_and, and_false, false_and, reduceIte, ite_true, ite_false, eq_self] at *)) <;> omega) ?_
          refine wa_top (fun v23 hv23 => ?_)
          have rv23 : -99999 ≤ v23.toInt ∧ v23.toInt ≤ 99999 := by rw [← hv23]; exact ar_at A_136 _
          have qv23 := hv23
          clear hv23
          refine wa_aload_n (i := 0) rfl rfl ?_
          refine wa_getr ck_12 fl_12_229 ly_84 rf_84_87 ?_
          refine wa_iload_n (i := 1) rfl rfl ?_
          refine wa_iald ly_158 (by ((try simp only [vp_in_iff, Int32.lt_iff_toInt_lt, Int32.le_iff_toInt_le, ← Int32.toInt_inj, Int32.reduceToInt, n_1, n_2, n_8, Int32.toNatClampNeg, Int64.lt_iff_toInt_lt, Int64.le_iff_toInt_le, ← Int64.toInt_inj, Int64.reduceToInt, Int32.toInt_toInt64, lg_cmp_ge, lg_cmp_le, lg_cmp_gt, lg_cmp_lt, lg_cmp_eq, Bool.false_eq_true, Bool.true_eq_false, reduceCtorEq, false_iff, true_iff, iff_true, iff_false, and_true, true_and, and_false, false_and, reduceIte, ite_true, ite_false, eq_self] at *)) <;> omega) ?_
          refine wa_top (fun v24 hv24 => ?_)
          have rv24 : -99999 ≤ v24.toInt ∧ v24.toInt ≤ 99999 := by rw [← hv24]; exact ar_at A_158 _
          have qv24 := hv24
          clear hv24
          refine wa_icmp_ne o_X12_workAt_44 (by decide) (fun h25 => ?_) (fun h25 => ?_)
          · refine wa_iconst (v := 0) (by decide) ?_
            refine wa_istore_nD (lv' := [(3, .int (bI false)), (0, .ref 84), (1, .int a0), (2, .int l2)]) (i := 3) rfl (by decide) rfl ?_
            refine wa_iconst (v := 0) (by decide) ?_
            refine wa_istoreD (lv' := [(4, .int 0), (3, .int (bI false)), (0, .ref 84), (1, .int a0), (2, .int l2)]) (by decide) rfl ?_
            refine wa_pick [2, 3, 4, 1, 0] rfl ?_
            have hi27 : ∀ (n9_49 : Nat) (l3 : Bool) (l4 : Int32), ((0 ≤ l4.toInt) ∧ (0 ≤ l4.toInt ∧ l4.toInt ≤ 4) ∧ (l3 = true ↔ (gi σ 157 (a0).toNatClampNeg = gi σ 135 (l2).toNatClampNeg ∧ gi σ 158 (a0).toNatClampNeg = gi σ 136 (l2).toNatClampNeg) ∧ ∀ v : Nat, (v : Int) < l4.toInt → gi σ 159 (4 * (a0).toNatClampNeg + v) = gi σ 137 (4 * (l2).toNatClampNeg + v)) ∧ (True)) → (2147483647 - l4.toInt).toNat = n9_49 → WA G M_X12_workAt (ZM G M_X12_workAt d (fun r σ' => ∃ x : Int32, r = some (.int x) ∧ σ = σ' ∧ ((x.toInt = -1 ∧ ∀ k : Nat, (k : Int) < (gi σ 84 119).toInt → ¬ EQR σ (a0).toNatClampNeg k) ∨ (0 ≤ x.toInt ∧ x.toInt < (gi σ 84 119).toInt ∧ EQR σ (a0).toNatClampNeg (x).toNatClampNeg)) ∧ True)) B_X12_workAt_49 [(0, .ref 84), (1, .int a0), (2, .int l2), (3, .int (bI l3)), (4, .int l4)] [] σ := by
              intro n9_49
              induction n9_49 using Nat.strongRecOn with
              | _ n9_49 ih26 =>
                intro l3 l4  i9 m9_49
                obtain ⟨jhi27_0, jhi27_1, jhi27_2, -⟩ := i9
                have ul4 := Int32.toInt_lt l4
                have wl4 := Int32.le_toInt l4
                refine wa_iload rfl ?_
                refine wa_iconst (v := 4) (by decide) ?_
                refine wa_icmp_ge o_X12_workAt_96 (by decide) (fun h28 => ?_) (fun h28 => ?_)
                · refine wa_iload_n (i := 3) rfl rfl ?_
                  refine wa_if_eq o_X12_workAt_102 (by decide) (fun h29 => ?_) (fun h29 => ?_)
                  · replace h29 := bI_f (b := l3) (rfl) h29
                    refine wa_iinc (v := (1)) (lv' := fun y30 => [(2, .int y30), (0, .ref 84), (1, .int a0), (3, .int (bI l3)), (4, .int l4)]) (by decide) rfl (by decide) (fun _ => rfl) (fun y30 hy30 => ?_)
                    have ty30 := i_addT hy30.symm
                    clear hy30
                    refine wa_goto o_X12_workAt_2 (by decide) ?_
                    refine wa_pick [1, 2, 0] rfl ?_
                    exact ih1 _ (by ((try simp only [vp_in_iff, Int32.lt_iff_toInt_lt, Int32.le_iff_toInt_le, ← Int32.toInt_inj, Int32.reduceToInt, n_1, n_2, n_8, Int32.toNatClampNeg, Int64.lt_iff_toInt_lt, Int64.le_iff_toInt_le, ← Int64.toInt_inj, Int64.reduceToInt, Int32.toInt_toInt64, lg_cmp_ge, lg_cmp_le, lg_cmp_gt, lg_cmp_lt, lg_cmp_eq, Bool.false_eq_true, Bool.true_eq_false, reduceCtorEq, false_iff, true_iff, iff_true, iff_false, and_true, true_and, and_false, false_and, reduceIte, ite_true, ite_false, eq_self] at *)) <;> omega) _ ⟨(by ((try simp only [vp_in_iff, Int32.lt_iff_toInt_lt, Int32.le_iff_toInt_le, ← Int32.toInt_inj, Int32.reduceToInt, n_1, n_2, n_8, Int32.toNatClampNeg, Int64.lt_iff_toInt_lt, Int64.le_iff_toInt_le, ← Int64.toInt_inj, Int64.reduceToInt, Int32.toInt_toInt64, lg_cmp_ge, lg_cmp_le, lg_cmp_gt, lg_cmp_lt, lg_cmp_eq, Bool.false_eq_true, Bool.true_eq_false, reduceCtorEq, false_iff, true_iff, iff_true, iff_false, and_true, true_and, and_false, false_and, reduceIte, ite_true, ite_false, eq_self] at *)) <;> omega), (by first | exact no_step (by assumption) (by ((try simp only [vp_in_iff, Int32.lt_iff_toInt_lt, Int32.le_iff_toInt_le, ← Int32.toInt_inj, Int32.reduceToInt, n_1, n_2, n_8, Int32.toNatClampNeg, Int64.lt_iff_toInt_lt, Int64.le_iff_toInt_le, ← Int64.toInt_inj, Int64.reduceToInt, Int32.toInt_toInt64, lg_cmp_ge, lg_cmp_le, lg_cmp_gt, lg_cmp_lt, lg_cmp_eq, Bool.false_eq_true, Bool.true_eq_false, reduceCtorEq, false_iff, true_iff, iff_true, iff_false, and_true, true_and, and_false, false_and, reduceIte, ite_true, ite_false, eq_self] at *)) <;> omega) (by ((try simp only [vp_in_iff, Int32.lt_iff_toInt_lt, Int32.le_iff_toInt_le, ← Int32.toInt_inj, Int32.reduceToInt, n_1, n_2, n_8, Int32.toNatClampNeg, Int64.lt_iff_toInt_lt, Int64.le_iff_toInt_le, ← Int64.toInt_inj, Int64.reduceToInt, Int32.toInt_toInt64, lg_cmp_ge, lg_cmp_le, lg_cmp_gt, lg_cmp_lt, lg_cmp_eq, Bool.false_eq_true, Bool.true_eq_false, reduceCtorEq, false_iff, true_iff, iff_true, iff_false, and_true, true_and, and_false, false_and, reduceIte, ite_true, ite_false, eq_self] at *)) <;> omega) (eqr_not (by assumption) (by assumption) (by ((try simp only [vp_in_iff, Int32.lt_iff_toInt_lt, Int32.le_iff_toInt_le, ← Int32.toInt_inj, Int32.reduceToInt, n_1, n_2, n_8, Int32.toNatClampNeg, Int64.lt_iff_toInt_lt, Int64.le_iff_toInt_le, ← Int64.toInt_inj, Int64.reduceToInt, Int32.toInt_toInt64, lg_cmp_ge, lg_cmp_le, lg_cmp_gt, lg_cmp_lt, lg_cmp_eq, Bool.false_eq_true, Bool.true_eq_false, reduceCtorEq, false_iff, true_iff, iff_true, iff_false, and_true, true_and, and_false, false_and, reduceIte, ite_true, ite_false, eq_self] at *)) <;> omega)) | exact no_0 (by decide)), trivial⟩ rfl
                  · replace h29 := bI_t (b := l3) (rfl) h29
                    refine wa_iload_n (i := 2) rfl rfl ?_
                    refine wa_ireturn rfl rfl ?_
                    exact ⟨_, rfl, rfl, (by first | exact Or.inr ⟨by ((try simp only [vp_in_iff, Int32.lt_iff_toInt_lt, Int32.le_iff_toInt_le, ← Int32.toInt_inj, Int32.reduceToInt, n_1, n_2, n_8, Int32.toNatClampNeg, Int64.lt_iff_toInt_lt, Int64.le_iff_toInt_le, ← Int64.toInt_inj, Int64.reduceToInt, Int32.toInt_toInt64, lg_cmp_ge, lg_cmp_le, lg_cmp_gt, lg_cmp_lt, lg_cmp_eq, Bool.false_eq_true, Bool.true_eq_false, reduceCtorEq, false_iff, true_iff, iff_true, iff_false, and_true, true_and, and_false, false_and, reduceIte, ite_true, ite_false, eq_self] at *)) <;> omega, by ((try simp only [vp_in_iff, Int32.lt_iff_toInt_lt, Int32.le_iff_toInt_le, ← Int32.toInt_inj, Int32.reduceToInt, n_1, n_2, n_8, Int32.toNatClampNeg, Int64.lt_iff_toInt_lt, Int64.le_iff_toInt_le, ← Int64.toInt_inj, Int64.reduceToInt, Int32.toInt_toInt64, lg_cmp_ge, lg_cmp_le, lg_cmp_gt, lg_cmp_lt, lg_cmp_eq, Bool.false_eq_true, Bool.true_eq_false, reduceCtorEq, false_iff, true_iff, iff_true, iff_false, and_true, true_and, and_false, false_and, reduceIte, ite_true, ite_false, eq_self] at *)) <;> omega, eqr_of (by assumption) (by assumption) (by ((try simp only [vp_in_iff, Int32.lt_iff_toInt_lt, Int32.le_iff_toInt_le, ← Int32.toInt_inj, Int32.reduceToInt, n_1, n_2, n_8, Int32.toNatClampNeg, Int64.lt_iff_toInt_lt, Int64.le_iff_toInt_le, ← Int64.toInt_inj, Int64.reduceToInt, Int32.toInt_toInt64, lg_cmp_ge, lg_cmp_le, lg_cmp_gt, lg_cmp_lt, lg_cmp_eq, Bool.false_eq_true, Bool.true_eq_false, reduceCtorEq, false_iff, true_iff, iff_true, iff_false, and_true, true_and, and_false, false_and, reduceIte, ite_true, ite_false, eq_self] at *)) <;> omega)⟩ | exact Or.inl ⟨by decide, no_end (by assumption) (by ((try simp only [vp_in_iff, Int32.lt_iff_toInt_lt, Int32.le_iff_toInt_le, ← Int32.toInt_inj, Int32.reduceToInt, n_1, n_2, n_8, Int32.toNatClampNeg, Int64.lt_iff_toInt_lt, Int64.le_iff_toInt_le, ← Int64.toInt_inj, Int64.reduceToInt, Int32.toInt_toInt64, lg_cmp_ge, lg_cmp_le, lg_cmp_gt, lg_cmp_lt, lg_cmp_eq, Bool.false_eq_true, Bool.true_eq_false, reduceCtorEq, false_iff, true_iff, iff_true, iff_false, and_true, true_and, and_false, false_and, reduceIte, ite_true, ite_false, eq_self] at *)) <;> omega)⟩), trivial⟩
                · have mh28 := nle_mx h28
                  refine wa_iload_n (i := 3) rfl rfl ?_
                  refine wa_if_eq o_X12_workAt_88 (by decide) (fun h31 => ?_) (fun h31 => ?_)
                  · replace h31 := bI_f (b := l3) (rfl) h31
                    refine wa_iconst (v := 0) (by decide) ?_
                    refine wa_istore_nD (lv' := [(3, .int (bI false)), (0, .ref 84), (1, .int a0), (2, .int l2), (4, .int l4)]) (i := 3) rfl (by decide) rfl ?_
                    refine wa_iinc (v := (1)) (lv' := fun y32 => [(4, .int y32), (3, .int (bI false)), (0, .ref 84), (1, .int a0), (2, .int l2)]) (by decide) rfl (by decide) (fun _ => rfl) (fun y32 hy32 => ?_)
                    have ty32 := i_addT hy32.symm
                    clear hy32
                    refine wa_goto o_X12_workAt_49 (by decide) ?_
                    refine wa_pick [2, 3, 4, 1, 0] rfl ?_
                    exact ih26 _ (by ((try simp only [vp_in_iff, Int32.lt_iff_toInt_lt, Int32.le_iff_toInt_le, ← Int32.toInt_inj, Int32.reduceToInt, n_1, n_2, n_8, Int32.toNatClampNeg, Int64.lt_iff_toInt_lt, Int64.le_iff_toInt_le, ← Int64.toInt_inj, Int64.reduceToInt, Int32.toInt_toInt64, lg_cmp_ge, lg_cmp_le, lg_cmp_gt, lg_cmp_lt, lg_cmp_eq, Bool.false_eq_true, Bool.true_eq_false, reduceCtorEq, false_iff, true_iff, iff_true, iff_false, and_true, true_and, and_false, false_and, reduceIte, ite_true, ite_false, eq_self] at *)) <;> omega) _ _ ⟨(by ((try simp only [vp_in_iff, Int32.lt_iff_toInt_lt, Int32.le_iff_toInt_le, ← Int32.toInt_inj, Int32.reduceToInt, n_1, n_2, n_8, Int32.toNatClampNeg, Int64.lt_iff_toInt_lt, Int64.le_iff_toInt_le, ← Int64.toInt_inj, Int64.reduceToInt, Int32.toInt_toInt64, lg_cmp_ge, lg_cmp_le, lg_cmp_gt, lg_cmp_lt, lg_cmp_eq, Bool.false_eq_true, Bool.true_eq_false, reduceCtorEq, false_iff, true_iff, iff_true, iff_false, and_true, true_and, and_false, false_and, reduceIte, ite_true, ite_false, eq_self] at *)) <;> omega), (by ((try simp only [vp_in_iff, Int32.lt_iff_toInt_lt, Int32.le_iff_toInt_le, ← Int32.toInt_inj, Int32.reduceToInt, n_1, n_2, n_8, Int32.toNatClampNeg, Int64.lt_iff_toInt_lt, Int64.le_iff_toInt_le, ← Int64.toInt_inj, Int64.reduceToInt, Int32.toInt_toInt64, lg_cmp_ge, lg_cmp_le, lg_cmp_gt, lg_cmp_lt, lg_cmp_eq, Bool.false_eq_true, Bool.true_eq_false, reduceCtorEq, false_iff, true_iff, iff_true, iff_false, and_true, true_and, and_false, false_and, reduceIte, ite_true, ite_false, eq_self] at *)) <;> omega), (by first | exact bs_0t (by decide) (by grind) | exact bs_0f (by decide) (by grind) | exact bs_ff (by assumption) (by assumption) (by ((try simp only [vp_in_iff, Int32.lt_iff_toInt_lt, Int32.le_iff_toInt_le, ← Int32.toInt_inj, Int32.reduceToInt, n_1, n_2, n_8, Int32.toNatClampNeg, Int64.lt_iff_toInt_lt, Int64.le_iff_toInt_le, ← Int64.toInt_inj, Int64.reduceToInt, Int32.toInt_toInt64, lg_cmp_ge, lg_cmp_le, lg_cmp_gt, lg_cmp_lt, lg_cmp_eq, Bool.false_eq_true, Bool.true_eq_false, reduceCtorEq, false_iff, true_iff, iff_true, iff_false, and_true, true_and, and_false, false_and, reduceIte, ite_true, ite_false, eq_self] at *)) <;> omega) | exact bs_tt (by assumption) (by assumption) (by ((try simp only [vp_in_iff, Int32.lt_iff_toInt_lt, Int32.le_iff_toInt_le, ← Int32.toInt_inj, Int32.reduceToInt, n_1, n_2, n_8, Int32.toNatClampNeg, Int64.lt_iff_toInt_lt, Int64.le_iff_toInt_le, ← Int64.toInt_inj, Int64.reduceToInt, Int32.toInt_toInt64, lg_cmp_ge, lg_cmp_le, lg_cmp_gt, lg_cmp_lt, lg_cmp_eq, Bool.false_eq_true, Bool.true_eq_false, reduceCtorEq, false_iff, true_iff, iff_true, iff_false, and_true, true_and, and_false, false_and, reduceIte, ite_true, ite_false, eq_self] at *)) <;> omega) (by ((try simp only [vp_in_iff, Int32.lt_iff_toInt_lt, Int32.le_iff_toInt_le, ← Int32.toInt_inj, Int32.reduceToInt, n_1, n_2, n_8, Int32.toNatClampNeg, Int64.lt_iff_toInt_lt, Int64.le_iff_toInt_le, ← Int64.toInt_inj, Int64.reduceToInt, Int32.toInt_toInt64, lg_cmp_ge, lg_cmp_le, lg_cmp_gt, lg_cmp_lt, lg_cmp_eq, Bool.false_eq_true, Bool.true_eq_false, reduceCtorEq, false_iff, true_iff, iff_true, iff_false, and_true, true_and, and_false, false_and, reduceIte, ite_true, ite_false, eq_self] at *)) <;> omega) (by grind) | exact bs_tf (by ((try simp only [vp_in_iff, Int32.lt_iff_toInt_lt, Int32.le_iff_toInt_le, ← Int32.toInt_inj, Int32.reduceToInt, n_1, n_2, n_8, Int32.toNatClampNeg, Int64.lt_iff_toInt_lt, Int64.le_iff_toInt_le, ← Int64.toInt_inj, Int64.reduceToInt, Int32.toInt_toInt64, lg_cmp_ge, lg_cmp_le, lg_cmp_gt, lg_cmp_lt, lg_cmp_eq, Bool.false_eq_true, Bool.true_eq_false, reduceCtorEq, false_iff, true_iff, iff_true, iff_false, and_true, true_and, and_false, false_and, reduceIte, ite_true, ite_false, eq_self] at *)) <;> omega) (by ((try simp only [vp_in_iff, Int32.lt_iff_toInt_lt, Int32.le_iff_toInt_le, ← Int32.toInt_inj, Int32.reduceToInt, n_1, n_2, n_8, Int32.toNatClampNeg, Int64.lt_iff_toInt_lt, Int64.le_iff_toInt_le, ← Int64.toInt_inj, Int64.reduceToInt, Int32.toInt_toInt64, lg_cmp_ge, lg_cmp_le, lg_cmp_gt, lg_cmp_lt, lg_cmp_eq, Bool.false_eq_true, Bool.true_eq_false, reduceCtorEq, false_iff, true_iff, iff_true, iff_false, and_true, true_and, and_false, false_and, reduceIte, ite_true, ite_false, eq_self] at *)) <;> omega) (by grind)), trivial⟩ rfl
                  · replace h31 := bI_t (b := l3) (rfl) h31
                    refine wa_aload_n (i := 0) rfl rfl ?_
                    refine wa_getr ck_12 fl_12_292 ly_84 rf_84_116 ?_
                    refine wa_iconst (v := 4) (by decide) ?_
                    refine wa_iload_n (i := 2) rfl rfl ?_
                    refine wa_imul ?_
                    refine wa_top (fun v33 hv33 => ?_)
                    have tv33 := i_mulT hv33
                    clear hv33
                    refine wa_iload rfl ?_
                    refine wa_iadd ?_
                    refine wa_top (fun v34 hv34 => ?_)
                    have tv34 := i_addT hv34
                    clear hv34
                    refine wa_iald ly_137 (by ((try simp only [vp_in_iff, Int32.lt_iff_toInt_lt, Int32.le_iff_toInt_le, ← Int32.toInt_inj, Int32.reduceToInt, n_1, n_2, n_8, Int32.toNatClampNeg, Int64.lt_iff_toInt_lt, Int64.le_iff_toInt_le, ← Int64.toInt_inj, Int64.reduceToInt, Int32.toInt_toInt64, lg_cmp_ge, lg_cmp_le, lg_cmp_gt, lg_cmp_lt, lg_cmp_eq, Bool.false_eq_true, Bool.true_eq_false, reduceCtorEq, false_iff, true_iff, iff_true, iff_false, and_true, true_and, and_false, false_and, reduceIte, ite_true, ite_false, eq_self] at *)) <;> omega) ?_
                    refine wa_top (fun v35 hv35 => ?_)
                    have rv35 : -20 ≤ v35.toInt ∧ v35.toInt ≤ 20 := by rw [← hv35]; exact ar_at A_137 _
                    have qv35 : gi σ 137 (4 * (l2).toNatClampNeg + (l4).toNatClampNeg) = v35 := by rw [show 4 * (l2).toNatClampNeg + (l4).toNatClampNeg = (v34).toNatClampNeg from by ((try simp only [vp_in_iff, Int32.lt_iff_toInt_lt, Int32.le_iff_toInt_le, ← Int32.toInt_inj, Int32.reduceToInt, n_1, n_2, n_8, Int32.toNatClampNeg, Int64.lt_iff_toInt_lt, Int64.le_iff_toInt_le, ← Int64.toInt_inj, Int64.reduceToInt, Int32.toInt_toInt64, lg_cmp_ge, lg_cmp_le, lg_cmp_gt, lg_cmp_lt, lg_cmp_eq, Bool.false_eq_true, Bool.true_eq_false, reduceCtorEq, false_iff, true_iff, iff_true, iff_false, and_true, true_and, and_false, false_and, reduceIte, ite_true, ite_false, eq_self] at *)) <;> omega]; exact hv35
                    clear hv35
                    refine wa_aload_n (i := 0) rfl rfl ?_
                    refine wa_getr ck_12 fl_12_226 ly_84 rf_84_86 ?_
                    refine wa_iconst (v := 4) (by decide) ?_
                    refine wa_iload_n (i := 1) rfl rfl ?_
                    refine wa_imul ?_
                    refine wa_top (fun v36 hv36 => ?_)
                    have tv36 := i_mulT hv36
                    clear hv36
                    refine wa_iload rfl ?_
                    refine wa_iadd ?_
                    refine wa_top (fun v37 hv37 => ?_)
                    have tv37 := i_addT hv37
                    clear hv37
                    refine wa_iald ly_159 (by ((try simp only [vp_in_iff, Int32.lt_iff_toInt_lt, Int32.le_iff_toInt_le, ← Int32.toInt_inj, Int32.reduceToInt, n_1, n_2, n_8, Int32.toNatClampNeg, Int64.lt_iff_toInt_lt, Int64.le_iff_toInt_le, ← Int64.toInt_inj, Int64.reduceToInt, Int32.toInt_toInt64, lg_cmp_ge, lg_cmp_le, lg_cmp_gt, lg_cmp_lt, lg_cmp_eq, Bool.false_eq_true, Bool.true_eq_false, reduceCtorEq, false_iff, true_iff, iff_true, iff_false, and_true, true_and, and_false, false_and, reduceIte, ite_true, ite_false, eq_self] at *)) <;> omega) ?_
                    refine wa_top (fun v38 hv38 => ?_)
                    have rv38 : -20 ≤ v38.toInt ∧ v38.toInt ≤ 20 := by rw [← hv38]; exact ar_at A_159 _
                    have qv38 : gi σ 159 (4 * (a0).toNatClampNeg + (l4).toNatClampNeg) = v38 := by rw [show 4 * (a0).toNatClampNeg + (l4).toNatClampNeg = (v37).toNatClampNeg from by ((try simp only [vp_in_iff, Int32.lt_iff_toInt_lt, Int32.le_iff_toInt_le, ← Int32.toInt_inj, Int32.reduceToInt, n_1, n_2, n_8, Int32.toNatClampNeg, Int64.lt_iff_toInt_lt, Int64.le_iff_toInt_le, ← Int64.toInt_inj, Int64.reduceToInt, Int32.toInt_toInt64, lg_cmp_ge, lg_cmp_le, lg_cmp_gt, lg_cmp_lt, lg_cmp_eq, Bool.false_eq_true, Bool.true_eq_false, reduceCtorEq, false_iff, true_iff, iff_true, iff_false, and_true, true_and, and_false, false_and, reduceIte, ite_true, ite_false, eq_self] at *)) <;> omega]; exact hv38
                    clear hv38
                    refine wa_icmp_ne o_X12_workAt_88 (by decide) (fun h39 => ?_) (fun h39 => ?_)
                    · refine wa_iconst (v := 0) (by decide) ?_
                      refine wa_istore_nD (lv' := [(3, .int (bI false)), (0, .ref 84), (1, .int a0), (2, .int l2), (4, .int l4)]) (i := 3) rfl (by decide) rfl ?_
                      refine wa_iinc (v := (1)) (lv' := fun y40 => [(4, .int y40), (3, .int (bI false)), (0, .ref 84), (1, .int a0), (2, .int l2)]) (by decide) rfl (by decide) (fun _ => rfl) (fun y40 hy40 => ?_)
                      have ty40 := i_addT hy40.symm
                      clear hy40
                      refine wa_goto o_X12_workAt_49 (by decide) ?_
                      refine wa_pick [2, 3, 4, 1, 0] rfl ?_
                      exact ih26 _ (by ((try simp only [vp_in_iff, Int32.lt_iff_toInt_lt, Int32.le_iff_toInt_le, ← Int32.toInt_inj, Int32.reduceToInt, n_1, n_2, n_8, Int32.toNatClampNeg, Int64.lt_iff_toInt_lt, Int64.le_iff_toInt_le, ← Int64.toInt_inj, Int64.reduceToInt, Int32.toInt_toInt64, lg_cmp_ge, lg_cmp_le, lg_cmp_gt, lg_cmp_lt, lg_cmp_eq, Bool.false_eq_true, Bool.true_eq_false, reduceCtorEq, false_iff, true_iff, iff_true, iff_false, and_true, true_and, and_false, false_and, reduceIte, ite_true, ite_false, eq_self] at *)) <;> omega) _ _ ⟨(by ((try simp only [vp_in_iff, Int32.lt_iff_toInt_lt, Int32.le_iff_toInt_le, ← Int32.toInt_inj, Int32.reduceToInt, n_1, n_2, n_8, Int32.toNatClampNeg, Int64.lt_iff_toInt_lt, Int64.le_iff_toInt_le, ← Int64.toInt_inj, Int64.reduceToInt, Int32.toInt_toInt64, lg_cmp_ge, lg_cmp_le, lg_cmp_gt, lg_cmp_lt, lg_cmp_eq, Bool.false_eq_true, Bool.true_eq_false, reduceCtorEq, false_iff, true_iff, iff_true, iff_false, and_true, true_and, and_false, false_and, reduceIte, ite_true, ite_false, eq_self] at *)) <;> omega), (by ((try simp only [vp_in_iff, Int32.lt_iff_toInt_lt, Int32.le_iff_toInt_le, ← Int32.toInt_inj, Int32.reduceToInt, n_1, n_2, n_8, Int32.toNatClampNeg, Int64.lt_iff_toInt_lt, Int64.le_iff_toInt_le, ← Int64.toInt_inj, Int64.reduceToInt, Int32.toInt_toInt64, lg_cmp_ge, lg_cmp_le, lg_cmp_gt, lg_cmp_lt, lg_cmp_eq, Bool.false_eq_true, Bool.true_eq_false, reduceCtorEq, false_iff, true_iff, iff_true, iff_false, and_true, true_and, and_false, false_and, reduceIte, ite_true, ite_false, eq_self] at *)) <;> omega), (by first | exact bs_0t (by decide) (by grind) | exact bs_0f (by decide) (by grind) | exact bs_ff (by assumption) (by assumption) (by ((try simp only [vp_in_iff, Int32.lt_iff_toInt_lt, Int32.le_iff_toInt_le, ← Int32.toInt_inj, Int32.reduceToInt, n_1, n_2, n_8, Int32.toNatClampNeg, Int64.lt_iff_toInt_lt, Int64.le_iff_toInt_le, ← Int64.toInt_inj, Int64.reduceToInt, Int32.toInt_toInt64, lg_cmp_ge, lg_cmp_le, lg_cmp_gt, lg_cmp_lt, lg_cmp_eq, Bool.false_eq_true, Bool.true_eq_false, reduceCtorEq, false_iff, true_iff, iff_true, iff_false, and_true, true_and, and_false, false_and, reduceIte, ite_true, ite_false, eq_self] at *)) <;> omega) | exact bs_tt (by assumption) (by assumption) (by ((try simp only [vp_in_iff, Int32.lt_iff_toInt_lt, Int32.le_iff_toInt_le, ← Int32.toInt_inj, Int32.reduceToInt, n_1, n_2, n_8, Int32.toNatClampNeg, Int64.lt_iff_toInt_lt, Int64.le_iff_toInt_le, ← Int64.toInt_inj, Int64.reduceToInt, Int32.toInt_toInt64, lg_cmp_ge, lg_cmp_le, lg_cmp_gt, lg_cmp_lt, lg_cmp_eq, Bool.false_eq_true, Bool.true_eq_false, reduceCtorEq, false_iff, true_iff, iff_true, iff_false, and_true, true_and, and_false, false_and, reduceIte, ite_true, ite_false, eq_self] at *)) <;> omega) (by ((try simp only [vp_in_iff, Int32.lt_iff_toInt_lt, Int32.le_iff_toInt_le, ← Int32.toInt_inj, Int32.reduceToInt, n_1, n_2, n_8, Int32.toNatClampNeg, Int64.lt_iff_toInt_lt, Int64.le_iff_toInt_le, ← Int64.toInt_inj, Int64.reduceToInt, Int32.toInt_toInt64, lg_cmp_ge, lg_cmp_le, lg_cmp_gt, lg_cmp_lt, lg_cmp_eq, Bool.false_eq_true, Bool.true_eq_false, reduceCtorEq, false_iff, true_iff, iff_true, iff_false, and_true, true_and, and_false, false_and, reduceIte, ite_true, ite_false, eq_self] at *)) <;> omega) (by grind) | exact bs_tf (by ((try simp only [vp_in_iff, Int32.lt_iff_toInt_lt, Int32.le_iff_toInt_le, ← Int32.toInt_inj, Int32.reduceToInt, n_1, n_2, n_8, Int32.toNatClampNeg, Int64.lt_iff_toInt_lt, Int64.le_iff_toInt_le, ← Int64.toInt_inj, Int64.reduceToInt, Int32.toInt_toInt64, lg_cmp_ge, lg_cmp_le, lg_cmp_gt, lg_cmp_lt, lg_cmp_eq, Bool.false_eq_true, Bool.true_eq_false, reduceCtorEq, false_iff, true_iff, iff_true, iff_false, and_true, true_and, and_false, false_and, reduceIte, ite_true, ite_false, eq_self] at *)) <;> omega) (by ((try simp only [vp_in_iff, Int32.lt_iff_toInt_lt, Int32.le_iff_toInt_le, ← Int32.toInt_inj, Int32.reduceToInt, n_1, n_2, n_8, Int32.toNatClampNeg, Int64.lt_iff_toInt_lt, Int64.le_iff_toInt_le, ← Int64.toInt_inj, Int64.reduceToInt, Int32.toInt_toInt64, lg_cmp_ge, lg_cmp_le, lg_cmp_gt, lg_cmp_lt, lg_cmp_eq, Bool.false_eq_true, Bool.true_eq_false, reduceCtorEq, false_iff, true_iff, iff_true, iff_false, and_true, true_and, and_false, false_and, reduceIte, ite_true, ite_false, eq_self] at *)) <;> omega) (by grind)), trivial⟩ rfl
                    · refine wa_iconst (v := 1) (by decide) ?_
                      refine wa_goto o_X12_workAt_89 (by decide) ?_
                      refine wa_istore_nD (lv' := [(3, .int (bI true)), (0, .ref 84), (1, .int a0), (2, .int l2), (4, .int l4)]) (i := 3) rfl (by decide) rfl ?_
                      refine wa_iinc (v := (1)) (lv' := fun y41 => [(4, .int y41), (3, .int (bI true)), (0, .ref 84), (1, .int a0), (2, .int l2)]) (by decide) rfl (by decide) (fun _ => rfl) (fun y41 hy41 => ?_)
                      have ty41 := i_addT hy41.symm
                      clear hy41
                      refine wa_goto o_X12_workAt_49 (by decide) ?_
                      refine wa_pick [2, 3, 4, 1, 0] rfl ?_
                      exact ih26 _ (by ((try simp only [vp_in_iff, Int32.lt_iff_toInt_lt, Int32.le_iff_toInt_le, ← Int32.toInt_inj, Int32.reduceToInt, n_1, n_2, n_8, Int32.toNatClampNeg, Int64.lt_iff_toInt_lt, Int64.le_iff_toInt_le, ← Int64.toInt_inj, Int64.reduceToInt, Int32.toInt_toInt64, lg_cmp_ge, lg_cmp_le, lg_cmp_gt, lg_cmp_lt, lg_cmp_eq, Bool.false_eq_true, Bool.true_eq_false, reduceCtorEq, false_iff, true_iff, iff_true, iff_false, and_true, true_and, and_false, false_and, reduceIte, ite_true, ite_false, eq_self] at *)) <;> omega) _ _ ⟨(by ((try simp only [vp_in_iff, Int32.lt_iff_toInt_lt, Int32.le_iff_toInt_le, ← Int32.toInt_inj, Int32.reduceToInt, n_1, n_2, n_8, Int32.toNatClampNeg, Int64.lt_iff_toInt_lt, Int64.le_iff_toInt_le, ← Int64.toInt_inj, Int64.reduceToInt, Int32.toInt_toInt64, lg_cmp_ge, lg_cmp_le, lg_cmp_gt, lg_cmp_lt, lg_cmp_eq, Bool.false_eq_true, Bool.true_eq_false, reduceCtorEq, false_iff, true_iff, iff_true, iff_false, and_true, true_and, and_false, false_and, reduceIte, ite_true, ite_false, eq_self] at *)) <;> omega), (by ((try simp only [vp_in_iff, Int32.lt_iff_toInt_lt, Int32.le_iff_toInt_le, ← Int32.toInt_inj, Int32.reduceToInt, n_1, n_2, n_8, Int32.toNatClampNeg, Int64.lt_iff_toInt_lt, Int64.le_iff_toInt_le, ← Int64.toInt_inj, Int64.reduceToInt, Int32.toInt_toInt64, lg_cmp_ge, lg_cmp_le, lg_cmp_gt, lg_cmp_lt, lg_cmp_eq, Bool.false_eq_true, Bool.true_eq_false, reduceCtorEq, false_iff, true_iff, iff_true, iff_false, and_true, true_and, and_false, false_and, reduceIte, ite_true, ite_false, eq_self] at *)) <;> omega), (by first | exact bs_0t (by decide) (by grind) | exact bs_0f (by decide) (by grind) | exact bs_ff (by assumption) (by assumption) (by ((try simp only [vp_in_iff, Int32.lt_iff_toInt_lt, Int32.le_iff_toInt_le, ← Int32.toInt_inj, Int32.reduceToInt, n_1, n_2, n_8, Int32.toNatClampNeg, Int64.lt_iff_toInt_lt, Int64.le_iff_toInt_le, ← Int64.toInt_inj, Int64.reduceToInt, Int32.toInt_toInt64, lg_cmp_ge, lg_cmp_le, lg_cmp_gt, lg_cmp_lt, lg_cmp_eq, Bool.false_eq_true, Bool.true_eq_false, reduceCtorEq, false_iff, true_iff, iff_true, iff_false, and_true, true_and, and_false, false_and, reduceIte, ite_true, ite_false, eq_self] at *)) <;> omega) | exact bs_tt (by assumption) (by assumption) (by ((try simp only [vp_in_iff, Int32.lt_iff_toInt_lt, Int32.le_iff_toInt_le, ← Int32.toInt_inj, Int32.reduceToInt, n_1, n_2, n_8, Int32.toNatClampNeg, Int64.lt_iff_toInt_lt, Int64.le_iff_toInt_le, ← Int64.toInt_inj, Int64.reduceToInt, Int32.toInt_toInt64, lg_cmp_ge, lg_cmp_le, lg_cmp_gt, lg_cmp_lt, lg_cmp_eq, Bool.false_eq_true, Bool.true_eq_false, reduceCtorEq, false_iff, true_iff, iff_true, iff_false, and_true, true_and, and_false, false_and, reduceIte, ite_true, ite_false, eq_self] at *)) <;> omega) (by ((try simp only [vp_in_iff, Int32.lt_iff_toInt_lt, Int32.le_iff_toInt_le, ← Int32.toInt_inj, Int32.reduceToInt, n_1, n_2, n_8, Int32.toNatClampNeg, Int64.lt_iff_toInt_lt, Int64.le_iff_toInt_le, ← Int64.toInt_inj, Int64.reduceToInt, Int32.toInt_toInt64, lg_cmp_ge, lg_cmp_le, lg_cmp_gt, lg_cmp_lt, lg_cmp_eq, Bool.false_eq_true, Bool.true_eq_false, reduceCtorEq, false_iff, true_iff, iff_true, iff_false, and_true, true_and, and_false, false_and, reduceIte, ite_true, ite_false, eq_self] at *)) <;> omega) (by grind) | exact bs_tf (by ((try simp only [vp_in_iff, Int32.lt_iff_toInt_lt, Int32.le_iff_toInt_le, ← Int32.toInt_inj, Int32.reduceToInt, n_1, n_2, n_8, Int32.toNatClampNeg, Int64.lt_iff_toInt_lt, Int64.le_iff_toInt_le, ← Int64.toInt_inj, Int64.reduceToInt, Int32.toInt_toInt64, lg_cmp_ge, lg_cmp_le, lg_cmp_gt, lg_cmp_lt, lg_cmp_eq, Bool.false_eq_true, Bool.true_eq_false, reduceCtorEq, false_iff, true_iff, iff_true, iff_false, and_true, true_and, and_false, false_and, reduceIte, ite_true, ite_false, eq_self] at *)) <;> omega) (by ((try simp only [vp_in_iff, Int32.lt_iff_toInt_lt, Int32.le_iff_toInt_le, ← Int32.toInt_inj, Int32.reduceToInt, n_1, n_2, n_8, Int32.toNatClampNeg, Int64.lt_iff_toInt_lt, Int64.le_iff_toInt_le, ← Int64.toInt_inj, Int64.reduceToInt, Int32.toInt_toInt64, lg_cmp_ge, lg_cmp_le, lg_cmp_gt, lg_cmp_lt, lg_cmp_eq, Bool.false_eq_true, Bool.true_eq_false, reduceCtorEq, false_iff, true_iff, iff_true, iff_false, and_true, true_and, and_false, false_and, reduceIte, ite_true, ite_false, eq_self] at *)) <;> omega) (by grind)), trivial⟩ rfl
            exact hi27 _ _ _ ⟨(by ((try simp only [vp_in_iff, Int32.lt_iff_toInt_lt, Int32.le_iff_toInt_le, ← Int32.toInt_inj, Int32.reduceToInt, n_1, n_2, n_8, Int32.toNatClampNeg, Int64.lt_iff_toInt_lt, Int64.le_iff_toInt_le, ← Int64.toInt_inj, Int64.reduceToInt, Int32.toInt_toInt64, lg_cmp_ge, lg_cmp_le, lg_cmp_gt, lg_cmp_lt, lg_cmp_eq, Bool.false_eq_true, Bool.true_eq_false, reduceCtorEq, false_iff, true_iff, iff_true, iff_false, and_true, true_and, and_false, false_and, reduceIte, ite_true, ite_false, eq_self] at *)) <;> omega), (by ((try simp only [vp_in_iff, Int32.lt_iff_toInt_lt, Int32.le_iff_toInt_le, ← Int32.toInt_inj, Int32.reduceToInt, n_1, n_2, n_8, Int32.toNatClampNeg, Int64.lt_iff_toInt_lt, Int64.le_iff_toInt_le, ← Int64.toInt_inj, Int64.reduceToInt, Int32.toInt_toInt64, lg_cmp_ge, lg_cmp_le, lg_cmp_gt, lg_cmp_lt, lg_cmp_eq, Bool.false_eq_true, Bool.true_eq_false, reduceCtorEq, false_iff, true_iff, iff_true, iff_false, and_true, true_and, and_false, false_and, reduceIte, ite_true, ite_false, eq_self] at *)) <;> omega), (by first | exact bs_0t (by decide) (by grind) | exact bs_0f (by decide) (by grind) | exact bs_ff (by assumption) (by assumption) (by ((try simp only [vp_in_iff, Int32.lt_iff_toInt_lt, Int32.le_iff_toInt_le, ← Int32.toInt_inj, Int32.reduceToInt, n_1, n_2, n_8, Int32.toNatClampNeg, Int64.lt_iff_toInt_lt, Int64.le_iff_toInt_le, ← Int64.toInt_inj, Int64.reduceToInt, Int32.toInt_toInt64, lg_cmp_ge, lg_cmp_le, lg_cmp_gt, lg_cmp_lt, lg_cmp_eq, Bool.false_eq_true, Bool.true_eq_false, reduceCtorEq, false_iff, true_iff, iff_true, iff_false, and_true, true_and, and_false, false_and, reduceIte, ite_true, ite_false, eq_self] at *)) <;> omega) | exact bs_tt (by assumption) (by assumption) (by ((try simp only [vp_in_iff, Int32.lt_iff_toInt_lt, Int32.le_iff_toInt_le, ← Int32.toInt_inj, Int32.reduceToInt, n_1, n_2, n_8, Int32.toNatClampNeg, Int64.lt_iff_toInt_lt, Int64.le_iff_toInt_le, ← Int64.toInt_inj, Int64.reduceToInt, Int32.toInt_toInt64, lg_cmp_ge, lg_cmp_le, lg_cmp_gt, lg_cmp_lt, lg_cmp_eq, Bool.false_eq_true, Bool.true_eq_false, reduceCtorEq, false_iff, true_iff, iff_true, iff_false, and_true, true_and, and_false, false_and, reduceIte, ite_true, ite_false, eq_self] at *)) <;> omega) (by ((try simp only [vp_in_iff, Int32.lt_iff_toInt_lt, Int32.le_iff_toInt_le, ← Int32.toInt_inj, Int32.reduceToInt, n_1, n_2, n_8, Int32.toNatClampNeg, Int64.lt_iff_toInt_lt, Int64.le_iff_toInt_le, ← Int64.toInt_inj, Int64.reduceToInt, Int32.toInt_toInt64, lg_cmp_ge, lg_cmp_le, lg_cmp_gt, lg_cmp_lt, lg_cmp_eq, Bool.false_eq_true, Bool.true_eq_false, reduceCtorEq, false_iff, true_iff, iff_true, iff_false, and_true, true_and, and_false, false_and, reduceIte, ite_true, ite_false, eq_self] at *)) <;> omega) (by grind) | exact bs_tf (by ((try simp only [vp_in_iff, Int32.lt_iff_toInt_lt, Int32.le_iff_toInt_le, ← Int32.toInt_inj, Int32.reduceToInt, n_1, n_2, n_8, Int32.toNatClampNeg, Int64.lt_iff_toInt_lt, Int64.le_iff_toInt_le, ← Int64.toInt_inj, Int64.reduceToInt, Int32.toInt_toInt64, lg_cmp_ge, lg_cmp_le, lg_cmp_gt, lg_cmp_lt, lg_cmp_eq, Bool.false_eq_true, Bool.true_eq_false, reduceCtorEq, false_iff, true_iff, iff_true, iff_false, and_true, true_and, and_false, false_and, reduceIte, ite_true, ite_false, eq_self] at *)) <;> omega) (by ((try simp only [vp_in_iff, Int32.lt_iff_toInt_lt, Int32.le_iff_toInt_le, ← Int32.toInt_inj, Int32.reduceToInt, n_1, n_2, n_8, Int32.toNatClampNeg, Int64.lt_iff_toInt_lt, Int64.le_iff_toInt_le, ← Int64.toInt_inj, Int64.reduceToInt, Int32.toInt_toInt64, lg_cmp_ge, lg_cmp_le, lg_cmp_gt, lg_cmp_lt, lg_cmp_eq, Bool.false_eq_true, Bool.true_eq_false, reduceCtorEq, false_iff, true_iff, iff_true, iff_false, and_true, true_and, and_false, false_and, reduceIte, ite_true, ite_false, eq_self] at *)) <;> omega) (by grind)), trivial⟩ rfl
          · refine wa_iconst (v := 1) (by decide) ?_
            refine wa_goto o_X12_workAt_45 (by decide) ?_
            refine wa_istore_nD (lv' := [(3, .int (bI true)), (0, .ref 84), (1, .int a0), (2, .int l2)]) (i := 3) rfl (by decide) rfl ?_
            refine wa_iconst (v := 0) (by decide) ?_
            refine wa_istoreD (lv' := [(4, .int 0), (3, .int (bI true)), (0, .ref 84), (1, .int a0), (2, .int l2)]) (by decide) rfl ?_
            refine wa_pick [2, 3, 4, 1, 0] rfl ?_
            have hi43 : ∀ (n9_49 : Nat) (l3 : Bool) (l4 : Int32), ((0 ≤ l4.toInt) ∧ (0 ≤ l4.toInt ∧ l4.toInt ≤ 4) ∧ (l3 = true ↔ (gi σ 157 (a0).toNatClampNeg = gi σ 135 (l2).toNatClampNeg ∧ gi σ 158 (a0).toNatClampNeg = gi σ 136 (l2).toNatClampNeg) ∧ ∀ v : Nat, (v : Int) < l4.toInt → gi σ 159 (4 * (a0).toNatClampNeg + v) = gi σ 137 (4 * (l2).toNatClampNeg + v)) ∧ (True)) → (2147483647 - l4.toInt).toNat = n9_49 → WA G M_X12_workAt (ZM G M_X12_workAt d (fun r σ' => ∃ x : Int32, r = some (.int x) ∧ σ = σ' ∧ ((x.toInt = -1 ∧ ∀ k : Nat, (k : Int) < (gi σ 84 119).toInt → ¬ EQR σ (a0).toNatClampNeg k) ∨ (0 ≤ x.toInt ∧ x.toInt < (gi σ 84 119).toInt ∧ EQR σ (a0).toNatClampNeg (x).toNatClampNeg)) ∧ True)) B_X12_workAt_49 [(0, .ref 84), (1, .int a0), (2, .int l2), (3, .int (bI l3)), (4, .int l4)] [] σ := by
              intro n9_49
              induction n9_49 using Nat.strongRecOn with
              | _ n9_49 ih42 =>
                intro l3 l4  i9 m9_49
                obtain ⟨jhi43_0, jhi43_1, jhi43_2, -⟩ := i9
                have ul4 := Int32.toInt_lt l4
                have wl4 := Int32.le_toInt l4
                refine wa_iload rfl ?_
                refine wa_iconst (v := 4) (by decide) ?_
                refine wa_icmp_ge o_X12_workAt_96 (by decide) (fun h44 => ?_) (fun h44 => ?_)
                · refine wa_iload_n (i := 3) rfl rfl ?_
                  refine wa_if_eq o_X12_workAt_102 (by decide) (fun h45 => ?_) (fun h45 => ?_)
                  · replace h45 := bI_f (b := l3) (rfl) h45
                    refine wa_iinc (v := (1)) (lv' := fun y46 => [(2, .int y46), (0, .ref 84), (1, .int a0), (3, .int (bI l3)), (4, .int l4)]) (by decide) rfl (by decide) (fun _ => rfl) (fun y46 hy46 => ?_)
                    have ty46 := i_addT hy46.symm
                    clear hy46
                    refine wa_goto o_X12_workAt_2 (by decide) ?_
                    refine wa_pick [1, 2, 0] rfl ?_
                    exact ih1 _ (by ((try simp only [vp_in_iff, Int32.lt_iff_toInt_lt, Int32.le_iff_toInt_le, ← Int32.toInt_inj, Int32.reduceToInt, n_1, n_2, n_8, Int32.toNatClampNeg, Int64.lt_iff_toInt_lt, Int64.le_iff_toInt_le, ← Int64.toInt_inj, Int64.reduceToInt, Int32.toInt_toInt64, lg_cmp_ge, lg_cmp_le, lg_cmp_gt, lg_cmp_lt, lg_cmp_eq, Bool.false_eq_true, Bool.true_eq_false, reduceCtorEq, false_iff, true_iff, iff_true, iff_false, and_true, true_and, and_false, false_and, reduceIte, ite_true, ite_false, eq_self] at *)) <;> omega) _ ⟨(by ((try simp only [vp_in_iff, Int32.lt_iff_toInt_lt, Int32.le_iff_toInt_le, ← Int32.toInt_inj, Int32.reduceToInt, n_1, n_2, n_8, Int32.toNatClampNeg, Int64.lt_iff_toInt_lt, Int64.le_iff_toInt_le, ← Int64.toInt_inj, Int64.reduceToInt, Int32.toInt_toInt64, lg_cmp_ge, lg_cmp_le, lg_cmp_gt, lg_cmp_lt, lg_cmp_eq, Bool.false_eq_true, Bool.true_eq_false, reduceCtorEq, false_iff, true_iff, iff_true, iff_false, and_true, true_and, and_false, false_and, reduceIte, ite_true, ite_false, eq_self] at *)) <;> omega), (by first | exact no_step (by assumption) (by ((try simp only [vp_in_iff, Int32.lt_iff_toInt_lt, Int32.le_iff_toInt_le, ← Int32.toInt_inj, Int32.reduceToInt, n_1, n_2, n_8, Int32.toNatClampNeg, Int64.lt_iff_toInt_lt, Int64.le_iff_toInt_le, ← Int64.toInt_inj, Int64.reduceToInt, Int32.toInt_toInt64, lg_cmp_ge, lg_cmp_le, lg_cmp_gt, lg_cmp_lt, lg_cmp_eq, Bool.false_eq_true, Bool.true_eq_false, reduceCtorEq, false_iff, true_iff, iff_true, iff_false, and_true, true_and, and_false, false_and, reduceIte, ite_true, ite_false, eq_self] at *)) <;> omega) (by ((try simp only [vp_in_iff, Int32.lt_iff_toInt_lt, Int32.le_iff_toInt_le, ← Int32.toInt_inj, Int32.reduceToInt, n_1, n_2, n_8, Int32.toNatClampNeg, Int64.lt_iff_toInt_lt, Int64.le_iff_toInt_le, ← Int64.toInt_inj, Int64.reduceToInt, Int32.toInt_toInt64, lg_cmp_ge, lg_cmp_le, lg_cmp_gt, lg_cmp_lt, lg_cmp_eq, Bool.false_eq_true, Bool.true_eq_false, reduceCtorEq, false_iff, true_iff, iff_true, iff_false, and_true, true_and, and_false, false_and, reduceIte, ite_true, ite_false, eq_self] at *)) <;> omega) (eqr_not (by assumption) (by assumption) (by ((try simp only [vp_in_iff, Int32.lt_iff_toInt_lt, Int32.le_iff_toInt_le, ← Int32.toInt_inj, Int32.reduceToInt, n_1, n_2, n_8, Int32.toNatClampNeg, Int64.lt_iff_toInt_lt, Int64.le_iff_toInt_le, ← Int64.toInt_inj, Int64.reduceToInt, Int32.toInt_toInt64, lg_cmp_ge, lg_cmp_le, lg_cmp_gt, lg_cmp_lt, lg_cmp_eq, Bool.false_eq_true, Bool.true_eq_false, reduceCtorEq, false_iff, true_iff, iff_true, iff_false, and_true, true_and, and_false, false_and, reduceIte, ite_true, ite_false, eq_self] at *)) <;> omega)) | exact no_0 (by decide)), trivial⟩ rfl
                  · replace h45 := bI_t (b := l3) (rfl) h45
                    refine wa_iload_n (i := 2) rfl rfl ?_
                    refine wa_ireturn rfl rfl ?_
                    exact ⟨_, rfl, rfl, (by first | exact Or.inr ⟨by ((try simp only [vp_in_iff, Int32.lt_iff_toInt_lt, Int32.le_iff_toInt_le, ← Int32.toInt_inj, Int32.reduceToInt, n_1, n_2, n_8, Int32.toNatClampNeg, Int64.lt_iff_toInt_lt, Int64.le_iff_toInt_le, ← Int64.toInt_inj, Int64.reduceToInt, Int32.toInt_toInt64, lg_cmp_ge, lg_cmp_le, lg_cmp_gt, lg_cmp_lt, lg_cmp_eq, Bool.false_eq_true, Bool.true_eq_false, reduceCtorEq, false_iff, true_iff, iff_true, iff_false, and_true, true_and, and_false, false_and, reduceIte, ite_true, ite_false, eq_self] at *)) <;> omega, by ((try simp only [vp_in_iff, Int32.lt_iff_toInt_lt, Int32.le_iff_toInt_le, ← Int32.toInt_inj, Int32.reduceToInt, n_1, n_2, n_8, Int32.toNatClampNeg, Int64.lt_iff_toInt_lt, Int64.le_iff_toInt_le, ← Int64.toInt_inj, Int64.reduceToInt, Int32.toInt_toInt64, lg_cmp_ge, lg_cmp_le, lg_cmp_gt, lg_cmp_lt, lg_cmp_eq, Bool.false_eq_true, Bool.true_eq_false, reduceCtorEq, false_iff, true_iff, iff_true, iff_false, and_true, true_and, and_false, false_and, reduceIte, ite_true, ite_false, eq_self] at *)) <;> omega, eqr_of (by assumption) (by assumption) (by ((try simp only [vp_in_iff, Int32.lt_iff_toInt_lt, Int32.le_iff_toInt_le, ← Int32.toInt_inj, Int32.reduceToInt, n_1, n_2, n_8, Int32.toNatClampNeg, Int64.lt_iff_toInt_lt, Int64.le_iff_toInt_le, ← Int64.toInt_inj, Int64.reduceToInt, Int32.toInt_toInt64, lg_cmp_ge, lg_cmp_le, lg_cmp_gt, lg_cmp_lt, lg_cmp_eq, Bool.false_eq_true, Bool.true_eq_false, reduceCtorEq, false_iff, true_iff, iff_true, iff_false, and_true, true_and, and_false, false_and, reduceIte, ite_true, ite_false, eq_self] at *)) <;> omega)⟩ | exact Or.inl ⟨by decide, no_end (by assumption) (by ((try simp only [vp_in_iff, Int32.lt_iff_toInt_lt, Int32.le_iff_toInt_le, ← Int32.toInt_inj, Int32.reduceToInt, n_1, n_2, n_8, Int32.toNatClampNeg, Int64.lt_iff_toInt_lt, Int64.le_iff_toInt_le, ← Int64.toInt_inj, Int64.reduceToInt, Int32.toInt_toInt64, lg_cmp_ge, lg_cmp_le, lg_cmp_gt, lg_cmp_lt, lg_cmp_eq, Bool.false_eq_true, Bool.true_eq_false, reduceCtorEq, false_iff, true_iff, iff_true, iff_false, and_true, true_and, and_false, false_and, reduceIte, ite_true, ite_false, eq_self] at *)) <;> omega)⟩), trivial⟩
                · have mh44 := nle_mx h44
                  refine wa_iload_n (i := 3) rfl rfl ?_
                  refine wa_if_eq o_X12_workAt_88 (by decide) (fun h47 => ?_) (fun h47 => ?_)
                  · replace h47 := bI_f (b := l3) (rfl) h47
                    refine wa_iconst (v := 0) (by decide) ?_
                    refine wa_istore_nD (lv' := [(3, .int (bI false)), (0, .ref 84), (1, .int a0), (2, .int l2), (4, .int l4)]) (i := 3) rfl (by decide) rfl ?_
                    refine wa_iinc (v := (1)) (lv' := fun y48 => [(4, .int y48), (3, .int (bI false)), (0, .ref 84), (1, .int a0), (2, .int l2)]) (by decide) rfl (by decide) (fun _ => rfl) (fun y48 hy48 => ?_)
                    have ty48 := i_addT hy48.symm
                    clear hy48
                    refine wa_goto o_X12_workAt_49 (by decide) ?_
                    refine wa_pick [2, 3, 4, 1, 0] rfl ?_
                    exact ih42 _ (by ((try simp only [vp_in_iff, Int32.lt_iff_toInt_lt, Int32.le_iff_toInt_le, ← Int32.toInt_inj, Int32.reduceToInt, n_1, n_2, n_8, Int32.toNatClampNeg, Int64.lt_iff_toInt_lt, Int64.le_iff_toInt_le, ← Int64.toInt_inj, Int64.reduceToInt, Int32.toInt_toInt64, lg_cmp_ge, lg_cmp_le, lg_cmp_gt, lg_cmp_lt, lg_cmp_eq, Bool.false_eq_true, Bool.true_eq_false, reduceCtorEq, false_iff, true_iff, iff_true, iff_false, and_true, true_and, and_false, false_and, reduceIte, ite_true, ite_false, eq_self] at *)) <;> omega) _ _ ⟨(by ((try simp only [vp_in_iff, Int32.lt_iff_toInt_lt, Int32.le_iff_toInt_le, ← Int32.toInt_inj, Int32.reduceToInt, n_1, n_2, n_8, Int32.toNatClampNeg, Int64.lt_iff_toInt_lt, Int64.le_iff_toInt_le, ← Int64.toInt_inj, Int64.reduceToInt, Int32.toInt_toInt64, lg_cmp_ge, lg_cmp_le, lg_cmp_gt, lg_cmp_lt, lg_cmp_eq, Bool.false_eq_true, Bool.true_eq_false, reduceCtorEq, false_iff, true_iff, iff_true, iff_false, and_true, true_and, and_false, false_and, reduceIte, ite_true, ite_false, eq_self] at *)) <;> omega), (by ((try simp only [vp_in_iff, Int32.lt_iff_toInt_lt, Int32.le_iff_toInt_le, ← Int32.toInt_inj, Int32.reduceToInt, n_1, n_2, n_8, Int32.toNatClampNeg, Int64.lt_iff_toInt_lt, Int64.le_iff_toInt_le, ← Int64.toInt_inj, Int64.reduceToInt, Int32.toInt_toInt64, lg_cmp_ge, lg_cmp_le, lg_cmp_gt, lg_cmp_lt, lg_cmp_eq, Bool.false_eq_true, Bool.true_eq_false, reduceCtorEq, false_iff, true_iff, iff_true, iff_false, and_true, true_and, and_false, false_and, reduceIte, ite_true, ite_false, eq_self] at *)) <;> omega), (by first | exact bs_0t (by decide) (by grind) | exact bs_0f (by decide) (by grind) | exact bs_ff (by assumption) (by assumption) (by ((try simp only [vp_in_iff, Int32.lt_iff_toInt_lt, Int32.le_iff_toInt_le, ← Int32.toInt_inj, Int32.reduceToInt, n_1, n_2, n_8, Int32.toNatClampNeg, Int64.lt_iff_toInt_lt, Int64.le_iff_toInt_le, ← Int64.toInt_inj, Int64.reduceToInt, Int32.toInt_toInt64, lg_cmp_ge, lg_cmp_le, lg_cmp_gt, lg_cmp_lt, lg_cmp_eq, Bool.false_eq_true, Bool.true_eq_false, reduceCtorEq, false_iff, true_iff, iff_true, iff_false, and_true, true_and, and_false, false_and, reduceIte, ite_true, ite_false, eq_self] at *)) <;> omega) | exact bs_tt (by assumption) (by assumption) (by ((try simp only [vp_in_iff, Int32.lt_iff_toInt_lt, Int32.le_iff_toInt_le, ← Int32.toInt_inj, Int32.reduceToInt, n_1, n_2, n_8, Int32.toNatClampNeg, Int64.lt_iff_toInt_lt, Int64.le_iff_toInt_le, ← Int64.toInt_inj, Int64.reduceToInt, Int32.toInt_toInt64, lg_cmp_ge, lg_cmp_le, lg_cmp_gt, lg_cmp_lt, lg_cmp_eq, Bool.false_eq_true, Bool.true_eq_false, reduceCtorEq, false_iff, true_iff, iff_true, iff_false, and_true, true_and, and_false, false_and, reduceIte, ite_true, ite_false, eq_self] at *)) <;> omega) (by ((try simp only [vp_in_iff, Int32.lt_iff_toInt_lt, Int32.le_iff_toInt_le, ← Int32.toInt_inj, Int32.reduceToInt, n_1, n_2, n_8, Int32.toNatClampNeg, Int64.lt_iff_toInt_lt, Int64.le_iff_toInt_le, ← Int64.toInt_inj, Int64.reduceToInt, Int32.toInt_toInt64, lg_cmp_ge, lg_cmp_le, lg_cmp_gt, lg_cmp_lt, lg_cmp_eq, Bool.false_eq_true, Bool.true_eq_false, reduceCtorEq, false_iff, true_iff, iff_true, iff_false, and_true, true_and, and_false, false_and, reduceIte, ite_true, ite_false, eq_self] at *)) <;> omega) (by grind) | exact bs_tf (by ((try simp only [vp_in_iff, Int32.lt_iff_toInt_lt, Int32.le_iff_toInt_le, ← Int32.toInt_inj, Int32.reduceToInt, n_1, n_2, n_8, Int32.toNatClampNeg, Int64.lt_iff_toInt_lt, Int64.le_iff_toInt_le, ← Int64.toInt_inj, Int64.reduceToInt, Int32.toInt_toInt64, lg_cmp_ge, lg_cmp_le, lg_cmp_gt, lg_cmp_lt, lg_cmp_eq, Bool.false_eq_true, Bool.true_eq_false, reduceCtorEq, false_iff, true_iff, iff_true, iff_false, and_true, true_and, and_false, false_and, reduceIte, ite_true, ite_false, eq_self] at *)) <;> omega) (by ((try simp only [vp_in_iff, Int32.lt_iff_toInt_lt, Int32.le_iff_toInt_le, ← Int32.toInt_inj, Int32.reduceToInt, n_1, n_2, n_8, Int32.toNatClampNeg, Int64.lt_iff_toInt_lt, Int64.le_iff_toInt_le, ← Int64.toInt_inj, Int64.reduceToInt, Int32.toInt_toInt64, lg_cmp_ge, lg_cmp_le, lg_cmp_gt, lg_cmp_lt, lg_cmp_eq, Bool.false_eq_true, Bool.true_eq_false, reduceCtorEq, false_iff, true_iff, iff_true, iff_false, and_true, true_and, and_false, false_and, reduceIte, ite_true, ite_false, eq_self] at *)) <;> omega) (by grind)), trivial⟩ rfl
                  · replace h47 := bI_t (b := l3) (rfl) h47
                    refine wa_aload_n (i := 0) rfl rfl ?_
                    refine wa_getr ck_12 fl_12_292 ly_84 rf_84_116 ?_
                    refine wa_iconst (v := 4) (by decide) ?_
                    refine wa_iload_n (i := 2) rfl rfl ?_
                    refine wa_imul ?_
                    refine wa_top (fun v49 hv49 => ?_)
                    have tv49 := i_mulT hv49
                    clear hv49
                    refine wa_iload rfl ?_
                    refine wa_iadd ?_
                    refine wa_top (fun v50 hv50 => ?_)
                    have tv50 := i_addT hv50
                    clear hv50
                    refine wa_iald ly_137 (by ((try simp only [vp_in_iff, Int32.lt_iff_toInt_lt, Int32.le_iff_toInt_le, ← Int32.toInt_inj, Int32.reduceToInt, n_1, n_2, n_8, Int32.toNatClampNeg, Int64.lt_iff_toInt_lt, Int64.le_iff_toInt_le, ← Int64.toInt_inj, Int64.reduceToInt, Int32.toInt_toInt64, lg_cmp_ge, lg_cmp_le, lg_cmp_gt, lg_cmp_lt, lg_cmp_eq, Bool.false_eq_true, Bool.true_eq_false, reduceCtorEq, false_iff, true_iff, iff_true, iff_false, and_true, true_and, and_false, false_and, reduceIte, ite_true, ite_false, eq_self] at *)) <;> omega) ?_
                    refine wa_top (fun v51 hv51 => ?_)
                    have rv51 : -20 ≤ v51.toInt ∧ v51.toInt ≤ 20 := by rw [← hv51]; exact ar_at A_137 _
                    have qv51 : gi σ 137 (4 * (l2).toNatClampNeg + (l4).toNatClampNeg) = v51 := by rw [show 4 * (l2).toNatClampNeg + (l4).toNatClampNeg = (v50).toNatClampNeg from by ((try simp only [vp_in_iff, Int32.lt_iff_toInt_lt, Int32.le_iff_toInt_le, ← Int32.toInt_inj, Int32.reduceToInt, n_1, n_2, n_8, Int32.toNatClampNeg, Int64.lt_iff_toInt_lt, Int64.le_iff_toInt_le, ← Int64.toInt_inj, Int64.reduceToInt, Int32.toInt_toInt64, lg_cmp_ge, lg_cmp_le, lg_cmp_gt, lg_cmp_lt, lg_cmp_eq, Bool.false_eq_true, Bool.true_eq_false, reduceCtorEq, false_iff, true_iff, iff_true, iff_false, and_true, true_and, and_false, false_and, reduceIte, ite_true, ite_false, eq_self] at *)) <;> omega]; exact hv51
                    clear hv51
                    refine wa_aload_n (i := 0) rfl rfl ?_
                    refine wa_getr ck_12 fl_12_226 ly_84 rf_84_86 ?_
                    refine wa_iconst (v := 4) (by decide) ?_
                    refine wa_iload_n (i := 1) rfl rfl ?_
                    refine wa_imul ?_
                    refine wa_top (fun v52 hv52 => ?_)
                    have tv52 := i_mulT hv52
                    clear hv52
                    refine wa_iload rfl ?_
                    refine wa_iadd ?_
                    refine wa_top (fun v53 hv53 => ?_)
                    have tv53 := i_addT hv53
                    clear hv53
                    refine wa_iald ly_159 (by ((try simp only [vp_in_iff, Int32.lt_iff_toInt_lt, Int32.le_iff_toInt_le, ← Int32.toInt_inj, Int32.reduceToInt, n_1, n_2, n_8, Int32.toNatClampNeg, Int64.lt_iff_toInt_lt, Int64.le_iff_toInt_le, ← Int64.toInt_inj, Int64.reduceToInt, Int32.toInt_toInt64, lg_cmp_ge, lg_cmp_le, lg_cmp_gt, lg_cmp_lt, lg_cmp_eq, Bool.false_eq_true, Bool.true_eq_false, reduceCtorEq, false_iff, true_iff, iff_true, iff_false, and_true, true_and, and_false, false_and, reduceIte, ite_true, ite_false, eq_self] at *)) <;> omega) ?_
                    refine wa_top (fun v54 hv54 => ?_)
                    have rv54 : -20 ≤ v54.toInt ∧ v54.toInt ≤ 20 := by rw [← hv54]; exact ar_at A_159 _
                    have qv54 : gi σ 159 (4 * (a0).toNatClampNeg + (l4).toNatClampNeg) = v54 := by rw [show 4 * (a0).toNatClampNeg + (l4).toNatClampNeg = (v53).toNatClampNeg from by ((try simp only [vp_in_iff, Int32.lt_iff_toInt_lt, Int32.le_iff_toInt_le, ← Int32.toInt_inj, Int32.reduceToInt, n_1, n_2, n_8, Int32.toNatClampNeg, Int64.lt_iff_toInt_lt, Int64.le_iff_toInt_le, ← Int64.toInt_inj, Int64.reduceToInt, Int32.toInt_toInt64, lg_cmp_ge, lg_cmp_le, lg_cmp_gt, lg_cmp_lt, lg_cmp_eq, Bool.false_eq_true, Bool.true_eq_false, reduceCtorEq, false_iff, true_iff, iff_true, iff_false, and_true, true_and, and_false, false_and, reduceIte, ite_true, ite_false, eq_self] at *)) <;> omega]; exact hv54
                    clear hv54
                    refine wa_icmp_ne o_X12_workAt_88 (by decide) (fun h55 => ?_) (fun h55 => ?_)
                    · refine wa_iconst (v := 0) (by decide) ?_
                      refine wa_istore_nD (lv' := [(3, .int (bI false)), (0, .ref 84), (1, .int a0), (2, .int l2), (4, .int l4)]) (i := 3) rfl (by decide) rfl ?_
                      refine wa_iinc (v := (1)) (lv' := fun y56 => [(4, .int y56), (3, .int (bI false)), (0, .ref 84), (1, .int a0), (2, .int l2)]) (by decide) rfl (by decide) (fun _ => rfl) (fun y56 hy56 => ?_)
                      have ty56 := i_addT hy56.symm
                      clear hy56
                      refine wa_goto o_X12_workAt_49 (by decide) ?_
                      refine wa_pick [2, 3, 4, 1, 0] rfl ?_
                      exact ih42 _ (by ((try simp only [vp_in_iff, Int32.lt_iff_toInt_lt, Int32.le_iff_toInt_le, ← Int32.toInt_inj, Int32.reduceToInt, n_1, n_2, n_8, Int32.toNatClampNeg, Int64.lt_iff_toInt_lt, Int64.le_iff_toInt_le, ← Int64.toInt_inj, Int64.reduceToInt, Int32.toInt_toInt64, lg_cmp_ge, lg_cmp_le, lg_cmp_gt, lg_cmp_lt, lg_cmp_eq, Bool.false_eq_true, Bool.true_eq_false, reduceCtorEq, false_iff, true_iff, iff_true, iff_false, and_true, true_and, and_false, false_and, reduceIte, ite_true, ite_false, eq_self] at *)) <;> omega) _ _ ⟨(by ((try simp only [vp_in_iff, Int32.lt_iff_toInt_lt, Int32.le_iff_toInt_le, ← Int32.toInt_inj, Int32.reduceToInt, n_1, n_2, n_8, Int32.toNatClampNeg, Int64.lt_iff_toInt_lt, Int64.le_iff_toInt_le, ← Int64.toInt_inj, Int64.reduceToInt, Int32.toInt_toInt64, lg_cmp_ge, lg_cmp_le, lg_cmp_gt, lg_cmp_lt, lg_cmp_eq, Bool.false_eq_true, Bool.true_eq_false, reduceCtorEq, false_iff, true_iff, iff_true, iff_false, and_true, true_and, and_false, false_and, reduceIte, ite_true, ite_false, eq_self] at *)) <;> omega), (by ((try simp only [vp_in_iff, Int32.lt_iff_toInt_lt, Int32.le_iff_toInt_le, ← Int32.toInt_inj, Int32.reduceToInt, n_1, n_2, n_8, Int32.toNatClampNeg, Int64.lt_iff_toInt_lt, Int64.le_iff_toInt_le, ← Int64.toInt_inj, Int64.reduceToInt, Int32.toInt_toInt64, lg_cmp_ge, lg_cmp_le, lg_cmp_gt, lg_cmp_lt, lg_cmp_eq, Bool.false_eq_true, Bool.true_eq_false, reduceCtorEq, false_iff, true_iff, iff_true, iff_false, and_true, true_and, and_false, false_and, reduceIte, ite_true, ite_false, eq_self] at *)) <;> omega), (by first | exact bs_0t (by decide) (by grind) | exact bs_0f (by decide) (by grind) | exact bs_ff (by assumption) (by assumption) (by ((try simp only [vp_in_iff, Int32.lt_iff_toInt_lt, Int32.le_iff_toInt_le, ← Int32.toInt_inj, Int32.reduceToInt, n_1, n_2, n_8, Int32.toNatClampNeg, Int64.lt_iff_toInt_lt, Int64.le_iff_toInt_le, ← Int64.toInt_inj, Int64.reduceToInt, Int32.toInt_toInt64, lg_cmp_ge, lg_cmp_le, lg_cmp_gt, lg_cmp_lt, lg_cmp_eq, Bool.false_eq_true, Bool.true_eq_false, reduceCtorEq, false_iff, true_iff, iff_true, iff_false, and_true, true_and, and_false, false_and, reduceIte, ite_true, ite_false, eq_self] at *)) <;> omega) | exact bs_tt (by assumption) (by assumption) (by ((try simp only [vp_in_iff, Int32.lt_iff_toInt_lt, Int32.le_iff_toInt_le, ← Int32.toInt_inj, Int32.reduceToInt, n_1, n_2, n_8, Int32.toNatClampNeg, Int64.lt_iff_toInt_lt, Int64.le_iff_toInt_le, ← Int64.toInt_inj, Int64.reduceToInt, Int32.toInt_toInt64, lg_cmp_ge, lg_cmp_le, lg_cmp_gt, lg_cmp_lt, lg_cmp_eq, Bool.false_eq_true, Bool.true_eq_false, reduceCtorEq, false_iff, true_iff, iff_true, iff_false, and_true, true_and, and_false, false_and, reduceIte, ite_true, ite_false, eq_self] at *)) <;> omega) (by ((try simp only [vp_in_iff, Int32.lt_iff_toInt_lt, Int32.le_iff_toInt_le, ← Int32.toInt_inj, Int32.reduceToInt, n_1, n_2, n_8, Int32.toNatClampNeg, Int64.lt_iff_toInt_lt, Int64.le_iff_toInt_le, ← Int64.toInt_inj, Int64.reduceToInt, Int32.toInt_toInt64, lg_cmp_ge, lg_cmp_le, lg_cmp_gt, lg_cmp_lt, lg_cmp_eq, Bool.false_eq_true, Bool.true_eq_false, reduceCtorEq, false_iff, true_iff, iff_true, iff_false, and_true, true_and, and_false, false_and, reduceIte, ite_true, ite_false, eq_self] at *)) <;> omega) (by grind) | exact bs_tf (by ((try simp only [vp_in_iff, Int32.lt_iff_toInt_lt, Int32.le_iff_toInt_le, ← Int32.toInt_inj, Int32.reduceToInt, n_1, n_2, n_8, Int32.toNatClampNeg, Int64.lt_iff_toInt_lt, Int64.le_iff_toInt_le, ← Int64.toInt_inj, Int64.reduceToInt, Int32.toInt_toInt64, lg_cmp_ge, lg_cmp_le, lg_cmp_gt, lg_cmp_lt, lg_cmp_eq, Bool.false_eq_true, Bool.true_eq_false, reduceCtorEq, false_iff, true_iff, iff_true, iff_false, and_true, true_and, and_false, false_and, reduceIte, ite_true, ite_false, eq_self] at *)) <;> omega) (by ((try simp only [vp_in_iff, Int32.lt_iff_toInt_lt, Int32.le_iff_toInt_le, ← Int32.toInt_inj, Int32.reduceToInt, n_1, n_2, n_8, Int32.toNatClampNeg, Int64.lt_iff_toInt_lt, Int64.le_iff_toInt_le, ← Int64.toInt_inj, Int64.reduceToInt, Int32.toInt_toInt64, lg_cmp_ge, lg_cmp_le, lg_cmp_gt, lg_cmp_lt, lg_cmp_eq, Bool.false_eq_true, Bool.true_eq_false, reduceCtorEq, false_iff, true_iff, iff_true, iff_false, and_true, true_and, and_false, false_and, reduceIte, ite_true, ite_false, eq_self] at *)) <;> omega) (by grind)), trivial⟩ rfl
                    · refine wa_iconst (v := 1) (by decide) ?_
                      refine wa_goto o_X12_workAt_89 (by decide) ?_
                      refine wa_istore_nD (lv' := [(3, .int (bI true)), (0, .ref 84), (1, .int a0), (2, .int l2), (4, .int l4)]) (i := 3) rfl (by decide) rfl ?_
                      refine wa_iinc (v := (1)) (lv' := fun y57 => [(4, .int y57), (3, .int (bI true)), (0, .ref 84), (1, .int a0), (2, .int l2)]) (by decide) rfl (by decide) (fun _ => rfl) (fun y57 hy57 => ?_)
                      have ty57 := i_addT hy57.symm
                      clear hy57
                      refine wa_goto o_X12_workAt_49 (by decide) ?_
                      refine wa_pick [2, 3, 4, 1, 0] rfl ?_
                      exact ih42 _ (by ((try simp only [vp_in_iff, Int32.lt_iff_toInt_lt, Int32.le_iff_toInt_le, ← Int32.toInt_inj, Int32.reduceToInt, n_1, n_2, n_8, Int32.toNatClampNeg, Int64.lt_iff_toInt_lt, Int64.le_iff_toInt_le, ← Int64.toInt_inj, Int64.reduceToInt, Int32.toInt_toInt64, lg_cmp_ge, lg_cmp_le, lg_cmp_gt, lg_cmp_lt, lg_cmp_eq, Bool.false_eq_true, Bool.true_eq_false, reduceCtorEq, false_iff, true_iff, iff_true, iff_false, and_true, true_and, and_false, false_and, reduceIte, ite_true, ite_false, eq_self] at *)) <;> omega) _ _ ⟨(by ((try simp only [vp_in_iff, Int32.lt_iff_toInt_lt, Int32.le_iff_toInt_le, ← Int32.toInt_inj, Int32.reduceToInt, n_1, n_2, n_8, Int32.toNatClampNeg, Int64.lt_iff_toInt_lt, Int64.le_iff_toInt_le, ← Int64.toInt_inj, Int64.reduceToInt, Int32.toInt_toInt64, lg_cmp_ge, lg_cmp_le, lg_cmp_gt, lg_cmp_lt, lg_cmp_eq, Bool.false_eq_true, Bool.true_eq_false, reduceCtorEq, false_iff, true_iff, iff_true, iff_false, and_true, true_and, and_false, false_and, reduceIte, ite_true, ite_false, eq_self] at *)) <;> omega), (by ((try simp only [vp_in_iff, Int32.lt_iff_toInt_lt, Int32.le_iff_toInt_le, ← Int32.toInt_inj, Int32.reduceToInt, n_1, n_2, n_8, Int32.toNatClampNeg, Int64.lt_iff_toInt_lt, Int64.le_iff_toInt_le, ← Int64.toInt_inj, Int64.reduceToInt, Int32.toInt_toInt64, lg_cmp_ge, lg_cmp_le, lg_cmp_gt, lg_cmp_lt, lg_cmp_eq, Bool.false_eq_true, Bool.true_eq_false, reduceCtorEq, false_iff, true_iff, iff_true, iff_false, and_true, true_and, and_false, false_and, reduceIte, ite_true, ite_false, eq_self] at *)) <;> omega), (by first | exact bs_0t (by decide) (by grind) | exact bs_0f (by decide) (by grind) | exact bs_ff (by assumption) (by assumption) (by ((try simp only [vp_in_iff, Int32.lt_iff_toInt_lt, Int32.le_iff_toInt_le, ← Int32.toInt_inj, Int32.reduceToInt, n_1, n_2, n_8, Int32.toNatClampNeg, Int64.lt_iff_toInt_lt, Int64.le_iff_toInt_le, ← Int64.toInt_inj, Int64.reduceToInt, Int32.toInt_toInt64, lg_cmp_ge, lg_cmp_le, lg_cmp_gt, lg_cmp_lt, lg_cmp_eq, Bool.false_eq_true, Bool.true_eq_false, reduceCtorEq, false_iff, true_iff, iff_true, iff_false, and_true, true_and, and_false, false_and, reduceIte, ite_true, ite_false, eq_self] at *)) <;> omega) | exact bs_tt (by assumption) (by assumption) (by ((try simp only [vp_in_iff, Int32.lt_iff_toInt_lt, Int32.le_iff_toInt_le, ← Int32.toInt_inj, Int32.reduceToInt, n_1, n_2, n_8, Int32.toNatClampNeg, Int64.lt_iff_toInt_lt, Int64.le_iff_toInt_le, ← Int64.toInt_inj, Int64.reduceToInt, Int32.toInt_toInt64, lg_cmp_ge, lg_cmp_le, lg_cmp_gt, lg_cmp_lt, lg_cmp_eq, Bool.false_eq_true, Bool.true_eq_false, reduceCtorEq, false_iff, true_iff, iff_true, iff_false, and_true, true_and, and_false, false_and, reduceIte, ite_true, ite_false, eq_self] at *)) <;> omega) (by ((try simp only [vp_in_iff, Int32.lt_iff_toInt_lt, Int32.le_iff_toInt_le, ← Int32.toInt_inj, Int32.reduceToInt, n_1, n_2, n_8, Int32.toNatClampNeg, Int64.lt_iff_toInt_lt, Int64.le_iff_toInt_le, ← Int64.toInt_inj, Int64.reduceToInt, Int32.toInt_toInt64, lg_cmp_ge, lg_cmp_le, lg_cmp_gt, lg_cmp_lt, lg_cmp_eq, Bool.false_eq_true, Bool.true_eq_false, reduceCtorEq, false_iff, true_iff, iff_true, iff_false, and_true, true_and, and_false, false_and, reduceIte, ite_true, ite_false, eq_self] at *)) <;> omega) (by grind) | exact bs_tf (by ((try simp only [vp_in_iff, Int32.lt_iff_toInt_lt, Int32.le_iff_toInt_le, ← Int32.toInt_inj, Int32.reduceToInt, n_1, n_2, n_8, Int32.toNatClampNeg, Int64.lt_iff_toInt_lt, Int64.le_iff_toInt_le, ← Int64.toInt_inj, Int64.reduceToInt, Int32.toInt_toInt64, lg_cmp_ge, lg_cmp_le, lg_cmp_gt, lg_cmp_lt, lg_cmp_eq, Bool.false_eq_true, Bool.true_eq_false, reduceCtorEq, false_iff, true_iff, iff_true, iff_false, and_true, true_and, and_false, false_and, reduceIte, ite_true, ite_false, eq_self] at *)) <;> omega) (by ((try simp only [vp_in_iff, Int32.lt_iff_toInt_lt, Int32.le_iff_toInt_le, ← Int32.toInt_inj, Int32.reduceToInt, n_1, n_2, n_8, Int32.toNatClampNeg, Int64.lt_iff_toInt_lt, Int64.le_iff_toInt_le, ← Int64.toInt_inj, Int64.reduceToInt, Int32.toInt_toInt64, lg_cmp_ge, lg_cmp_le, lg_cmp_gt, lg_cmp_lt, lg_cmp_eq, Bool.false_eq_true, Bool.true_eq_false, reduceCtorEq, false_iff, true_iff, iff_true, iff_false, and_true, true_and, and_false, false_and, reduceIte, ite_true, ite_false, eq_self] at *)) <;> omega) (by grind)), trivial⟩ rfl
            exact hi43 _ _ _ ⟨(by ((try simp only [vp_in_iff, Int32.lt_iff_toInt_lt, Int32.le_iff_toInt_le, ← Int32.toInt_inj, Int32.reduceToInt, n_1, n_2, n_8, Int32.toNatClampNeg, Int64.lt_iff_toInt_lt, Int64.le_iff_toInt_le, ← Int64.toInt_inj, Int64.reduceToInt, Int32.toInt_toInt64, lg_cmp_ge, lg_cmp_le, lg_cmp_gt, lg_cmp_lt, lg_cmp_eq, Bool.false_eq_true, Bool.true_eq_false, reduceCtorEq, false_iff, true_iff, iff_true, iff_false, and_true, true_and, and_false, false_and, reduceIte, ite_true, ite_false, eq_self] at *)) <;> omega), (by ((try simp only [vp_in_iff, Int32.lt_iff_toInt_lt, Int32.le_iff_toInt_le, ← Int32.toInt_inj, Int32.reduceToInt, n_1, n_2, n_8, Int32.toNatClampNeg, Int64.lt_iff_toInt_lt, Int64.le_iff_toInt_le, ← Int64.toInt_inj, Int64.reduceToInt, Int32.toInt_toInt64, lg_cmp_ge, lg_cmp_le, lg_cmp_gt, lg_cmp_lt, lg_cmp_eq, Bool.false_eq_true, Bool.true_eq_false, reduceCtorEq, false_iff, true_iff, iff_true, iff_false, and_true, true_and, and_false, false_and, reduceIte, ite_true, ite_false, eq_self] at *)) <;> omega), (by first | exact bs_0t (by decide) (by grind) | exact bs_0f (by decide) (by grind) | exact bs_ff (by assumption) (by assumption) (by ((try simp only [vp_in_iff, Int32.lt_iff_toInt_lt, Int32.le_iff_toInt_le, ← Int32.toInt_inj, Int32.reduceToInt, n_1, n_2, n_8, Int32.toNatClampNeg, Int64.lt_iff_toInt_lt, Int64.le_iff_toInt_le, ← Int64.toInt_inj, Int64.reduceToInt, Int32.toInt_toInt64, lg_cmp_ge, lg_cmp_le, lg_cmp_gt, lg_cmp_lt, lg_cmp_eq, Bool.false_eq_true, Bool.true_eq_false, reduceCtorEq, false_iff, true_iff, iff_true, iff_false, and_true, true_and, and_false, false_and, reduceIte, ite_true, ite_false, eq_self] at *)) <;> omega) | exact bs_tt (by assumption) (by assumption) (by ((try simp only [vp_in_iff, Int32.lt_iff_toInt_lt, Int32.le_iff_toInt_le, ← Int32.toInt_inj, Int32.reduceToInt, n_1, n_2, n_8, Int32.toNatClampNeg, Int64.lt_iff_toInt_lt, Int64.le_iff_toInt_le, ← Int64.toInt_inj, Int64.reduceToInt, Int32.toInt_toInt64, lg_cmp_ge, lg_cmp_le, lg_cmp_gt, lg_cmp_lt, lg_cmp_eq, Bool.false_eq_true, Bool.true_eq_false, reduceCtorEq, false_iff, true_iff, iff_true, iff_false, and_true, true_and, and_false, false_and, reduceIte, ite_true, ite_false, eq_self] at *)) <;> omega) (by ((try simp only [vp_in_iff, Int32.lt_iff_toInt_lt, Int32.le_iff_toInt_le, ← Int32.toInt_inj, Int32.reduceToInt, n_1, n_2, n_8, Int32.toNatClampNeg, Int64.lt_iff_toInt_lt, Int64.le_iff_toInt_le, ← Int64.toInt_inj, Int64.reduceToInt, Int32.toInt_toInt64, lg_cmp_ge, lg_cmp_le, lg_cmp_gt, lg_cmp_lt, lg_cmp_eq, Bool.false_eq_true, Bool.true_eq_false, reduceCtorEq, false_iff, true_iff, iff_true, iff_false, and_true, true_and, and_false, false_and, reduceIte, ite_true, ite_false, eq_self] at *)) <;> omega) (by grind) | exact bs_tf (by ((try simp only [vp_in_iff, Int32.lt_iff_toInt_lt, Int32.le_iff_toInt_le, ← Int32.toInt_inj, Int32.reduceToInt, n_1, n_2, n_8, Int32.toNatClampNeg, Int64.lt_iff_toInt_lt, Int64.le_iff_toInt_le, ← Int64.toInt_inj, Int64.reduceToInt, Int32.toInt_toInt64, lg_cmp_ge, lg_cmp_le, lg_cmp_gt, lg_cmp_lt, lg_cmp_eq, Bool.false_eq_true, Bool.true_eq_false, reduceCtorEq, false_iff, true_iff, iff_true, iff_false, and_true, true_and, and_false, false_and, reduceIte, ite_true, ite_false, eq_self] at *)) <;> omega) (by ((try simp only [vp_in_iff, Int32.lt_iff_toInt_lt, Int32.le_iff_toInt_le, ← Int32.toInt_inj, Int32.reduceToInt, n_1, n_2, n_8, Int32.toNatClampNeg, Int64.lt_iff_toInt_lt, Int64.le_iff_toInt_le, ← Int64.toInt_inj, Int64.reduceToInt, Int32.toInt_toInt64, lg_cmp_ge, lg_cmp_le, lg_cmp_gt, lg_cmp_lt, lg_cmp_eq, Bool.false_eq_true, Bool.true_eq_false, reduceCtorEq, false_iff, true_iff, iff_true, iff_false, and_true, true_and, and_false, false_and, reduceIte, ite_true, ite_false, eq_self] at *)) <;> omega) (by grind)), trivial⟩ rfl
  exact hi2 _ _ ⟨(by ((try simp only [vp_in_iff, Int32.lt_iff_toInt_lt, Int32.le_iff_toInt_le, ← Int32.toInt_inj, Int32.reduceToInt, n_1, n_2, n_8, Int32.toNatClampNeg, Int64.lt_iff_toInt_lt, Int64.le_iff_toInt_le, ← Int64.toInt_inj, Int64.reduceToInt, Int32.toInt_toInt64, lg_cmp_ge, lg_cmp_le, lg_cmp_gt, lg_cmp_lt, lg_cmp_eq, Bool.false_eq_true, Bool.true_eq_false, reduceCtorEq, false_iff, true_iff, iff_true, iff_false, and_true, true_and, and_false, false_and, reduceIte, ite_true, ite_false, eq_self] at *)) <;> omega), (by first | exact no_step (by assumption) (by ((try simp only [vp_in_iff, Int32.lt_iff_toInt_lt, Int32.le_iff_toInt_le, ← Int32.toInt_inj, Int32.reduceToInt, n_1, n_2, n_8, Int32.toNatClampNeg, Int64.lt_iff_toInt_lt, Int64.le_iff_toInt_le, ← Int64.toInt_inj, Int64.reduceToInt, Int32.toInt_toInt64, lg_cmp_ge, lg_cmp_le, lg_cmp_gt, lg_cmp_lt, lg_cmp_eq, Bool.false_eq_true, Bool.true_eq_false, reduceCtorEq, false_iff, true_iff, iff_true, iff_false, and_true, true_and, and_false, false_and, reduceIte, ite_true, ite_false, eq_self] at *)) <;> omega) (by ((try simp only [vp_in_iff, Int32.lt_iff_toInt_lt, Int32.le_iff_toInt_le, ← Int32.toInt_inj, Int32.reduceToInt, n_1, n_2, n_8, Int32.toNatClampNeg, Int64.lt_iff_toInt_lt, Int64.le_iff_toInt_le, ← Int64.toInt_inj, Int64.reduceToInt, Int32.toInt_toInt64, lg_cmp_ge, lg_cmp_le, lg_cmp_gt, lg_cmp_lt, lg_cmp_eq, Bool.false_eq_true, Bool.true_eq_false, reduceCtorEq, false_iff, true_iff, iff_true, iff_false, and_true, true_and, and_false, false_and, reduceIte, ite_true, ite_false, eq_self] at *)) <;> omega) (eqr_not (by assumption) (by assumption) (by ((try simp only [vp_in_iff, Int32.lt_iff_toInt_lt, Int32.le_iff_toInt_le, ← Int32.toInt_inj, Int32.reduceToInt, n_1, n_2, n_8, Int32.toNatClampNeg, Int64.lt_iff_toInt_lt, Int64.le_iff_toInt_le, ← Int64.toInt_inj, Int64.reduceToInt, Int32.toInt_toInt64, lg_cmp_ge, lg_cmp_le, lg_cmp_gt, lg_cmp_lt, lg_cmp_eq, Bool.false_eq_true, Bool.true_eq_false, reduceCtorEq, false_iff, true_iff, iff_true, iff_false, and_true, true_and, and_false, false_and, reduceIte, ite_true, ite_false, eq_self] at *)) <;> omega)) | exact no_0 (by decide)), trivial⟩ rfl
set_option maxHeartbeats 4000000 in
theorem sp_X12_put (G : kG9) {d : Nat} (hd : 1 ≤ d) (σ : St) (a0 : Int32) (p1 : 0 ≤ a0.toInt ∧ a0.toInt < 26) (r1 : 0 ≤ (gi σ 84 119).toInt ∧ (gi σ 84 119).toInt ≤ 576) (A_135 : AR ap_135 σ 135) (A_136 : AR ap_136 σ 136) (A_137 : AR ap_137 σ 137) (A_156 : AR ap_156 σ 156) (A_157 : AR ap_157 σ 157) (A_158 : AR ap_158 σ 158) (A_159 : AR ap_159 σ 159) (P_INW : INW σ) (P_AOK : AOK σ) (P_WOK : WOK σ) : Ct G M_X12_put d [.ref 84, .int a0] σ (fun r σ' => Fm [133, 135, 136, 137] [119] σ σ' ∧ ((gi σ' 84 119).toInt ≤ (gi σ 84 119).toInt + 24) ∧ (0 ≤ (gi σ' 84 119).toInt) ∧ AR ap_135 σ' 135 ∧ AR ap_136 σ' 136 ∧ AR ap_137 σ' 137 ∧ INW σ' ∧ WOK σ' ∧ True) := by
  refine wa_start (by decide) rfl (Nat.le_of_ble_eq_true rfl) (lv := [(0, .ref 84), (1, .int a0)]) rfl o_X12_put_0 rfl ?_
  have ua0 := Int32.toInt_lt a0
  have wa0 := Int32.le_toInt a0
  have n156 : 0 ≤ (gi σ 156 (a0).toNatClampNeg).toInt ∧ (gi σ 156 (a0).toNatClampNeg).toInt ≤ 24 := ar_at A_156 _
  refine wa_aload_n (i := 0) rfl rfl ?_
  refine wa_getr ck_12 fl_12_304 ly_84 rf_84_121 ?_
  refine wa_iload_n (i := 1) rfl rfl ?_
  refine wa_iconst (v := 1) (by decide) ?_
  refine wa_zast true (rfl) ly_133 (by ((try simp only [vp_in_iff, Int32.lt_iff_toInt_lt, Int32.le_iff_toInt_le, ← Int32.toInt_inj, Int32.reduceToInt, n_1, n_2, n_8, Int32.toNatClampNeg, Int64.lt_iff_toInt_lt, Int64.le_iff_toInt_le, ← Int64.toInt_inj, Int64.reduceToInt, Int32.toInt_toInt64, lg_cmp_ge, lg_cmp_le, lg_cmp_gt, lg_cmp_lt, lg_cmp_eq, Bool.false_eq_true, Bool.true_eq_false, reduceCtorEq, false_iff, true_iff, iff_true, iff_false, and_true, true_and, and_false, false_and, reduceIte, ite_true, ite_false, eq_self] at *)) <;> omega) (fun s1 hs1 => ?_)
  have Fs1 : Fm [133, 135, 136, 137] [119] σ s1 := by rw [hs1]; exact Fm.sb (Fm.rf [133, 135, 136, 137] [119] σ) rfl
  refine wa_bipush (v := 24) (by decide) ?_
  refine wa_iload_n (i := 1) rfl rfl ?_
  refine wa_imul ?_
  refine wa_top (fun v2 hv2 => ?_)
  have tv2 := i_mulT hv2
  clear hv2
  refine wa_istore_nD (lv' := [(2, .int v2), (0, .ref 84), (1, .int a0)]) (i := 2) rfl (by decide) rfl ?_
  refine wa_pick [1, 2, 0] rfl ?_
  have hi5 : ∀ (n9_12 : Nat) (l2 : Int32) (s3 : St), ((Fm [133, 135, 136, 137] [119] σ s3) ∧ (AR ap_135 s3 135) ∧ (AR ap_136 s3 136) ∧ (AR ap_137 s3 137) ∧ (WOK s3) ∧ ((gi s3 84 119).toInt ≤ (gi σ 84 119).toInt + l2.toInt - 24 * a0.toInt) ∧ (0 ≤ (gi s3 84 119).toInt) ∧ (24 * a0.toInt ≤ l2.toInt) ∧ (l2.toInt ≤ 24 * a0.toInt + (gi σ 156 (a0).toNatClampNeg).toInt) ∧ (INWP s3 (a0).toNatClampNeg (l2).toNatClampNeg) ∧ (True)) → (2147483647 - l2.toInt).toNat = n9_12 → WA G M_X12_put (ZM G M_X12_put d (fun r σ' => Fm [133, 135, 136, 137] [119] σ σ' ∧ ((gi σ' 84 119).toInt ≤ (gi σ 84 119).toInt + 24) ∧ (0 ≤ (gi σ' 84 119).toInt) ∧ AR ap_135 σ' 135 ∧ AR ap_136 σ' 136 ∧ AR ap_137 σ' 137 ∧ INW σ' ∧ WOK σ' ∧ True)) B_X12_put_12 [(0, .ref 84), (1, .int a0), (2, .int l2)] [] s3 := by
    intro n9_12
    induction n9_12 using Nat.strongRecOn with
    | _ n9_12 ih4 =>
      intro l2 s3 i9 m9_12
      obtain ⟨Fs3, As3_135, As3_136, As3_137, Ps3_WOK, jhi5_0, jhi5_1, jhi5_2, jhi5_3, jhi5_4, -⟩ := i9
      have ul2 := Int32.toInt_lt l2
      have wl2 := Int32.le_toInt l2
      refine wa_iload_n (i := 2) rfl rfl ?_
      refine wa_bipush (v := 24) (by decide) ?_
      refine wa_iload_n (i := 1) rfl rfl ?_
      refine wa_imul ?_
      refine wa_top (fun v6 hv6 => ?_)
      have tv6 := i_mulT hv6
      clear hv6
      refine wa_aload_n (i := 0) rfl rfl ?_
      refine wa_getr ck_12 fl_12_235 ly_84 rf_84_89 ?_
      refine wa_iload_n (i := 1) rfl rfl ?_
      refine wa_iald ly_156 (by ((try simp only [vp_in_iff, Int32.lt_iff_toInt_lt, Int32.le_iff_toInt_le, ← Int32.toInt_inj, Int32.reduceToInt, n_1, n_2, n_8, Int32.toNatClampNeg, Int64.lt_iff_toInt_lt, Int64.le_iff_toInt_le, ← Int64.toInt_inj, Int64.reduceToInt, Int32.toInt_toInt64, lg_cmp_ge, lg_cmp_le, lg_cmp_gt, lg_cmp_lt, lg_cmp_eq, Bool.false_eq_true, Bool.true_eq_false, reduceCtorEq, false_iff, true_iff, iff_true, iff_false, and_true, true_and, and_false, false_and, reduceIte, ite_true, ite_false, eq_self] at *)) <;> omega) ?_
      refine wa_top (fun v7 hv7 => ?_)
      have rv7 : 0 ≤ v7.toInt ∧ v7.toInt ≤ 24 := by rw [← hv7]; exact ar_at (ar_fm Fs3 rfl rfl A_156) _
      have qv7 : gi σ 156 ((a0).toNatClampNeg) = v7 := (Fm.gi Fs3 (q := 156) (k := (a0).toNatClampNeg) rfl rfl).symm.trans hv7
      clear hv7
      refine wa_iadd ?_
      refine wa_top (fun v8 hv8 => ?_)
      have tv8 := i_addT hv8
      clear hv8
      refine wa_icmp_ge o_X12_put_120 (by decide) (fun h9 => ?_) (fun h9 => ?_)
      · have Ps3_INW := inwp_done ‹INWP s3 _ _› (by rw [Fm.gi Fs3 (q := 156) rfl rfl]; ((try simp only [vp_in_iff, Int32.lt_iff_toInt_lt, Int32.le_iff_toInt_le, ← Int32.toInt_inj, Int32.reduceToInt, n_1, n_2, n_8, Int32.toNatClampNeg, Int64.lt_iff_toInt_lt, Int64.le_iff_toInt_le, ← Int64.toInt_inj, Int64.reduceToInt, Int32.toInt_toInt64, lg_cmp_ge, lg_cmp_le, lg_cmp_gt, lg_cmp_lt, lg_cmp_eq, Bool.false_eq_true, Bool.true_eq_false, reduceCtorEq, false_iff, true_iff, iff_true, iff_false, and_true, true_and, and_false, false_and, reduceIte, ite_true, ite_false, eq_self] at *)) <;> omega)
        refine wa_return (st := []) rfl rfl ?_
        exact ⟨Fs3, (by first | assumption | (((try simp only [vp_in_iff, Int32.lt_iff_toInt_lt, Int32.le_iff_toInt_le, ← Int32.toInt_inj, Int32.reduceToInt, n_1, n_2, n_8, Int32.toNatClampNeg, Int64.lt_iff_toInt_lt, Int64.le_iff_toInt_le, ← Int64.toInt_inj, Int64.reduceToInt, Int32.toInt_toInt64, lg_cmp_ge, lg_cmp_le, lg_cmp_gt, lg_cmp_lt, lg_cmp_eq, Bool.false_eq_true, Bool.true_eq_false, reduceCtorEq, false_iff, true_iff, iff_true, iff_false, and_true, true_and, and_false, false_and, reduceIte, ite_true, ite_false, eq_self] at *)) <;> omega)), (by first | assumption | (((try simp only [vp_in_iff, Int32.lt_iff_toInt_lt, Int32.le_iff_toInt_le, ← Int32.toInt_inj, Int32.reduceToInt, n_1, n_2, n_8, Int32.toNatClampNeg, Int64.lt_iff_toInt_lt, Int64.le_iff_toInt_le, ← Int64.toInt_inj, Int64.reduceToInt, Int32.toInt_toInt64, lg_cmp_ge, lg_cmp_le, lg_cmp_gt, lg_cmp_lt, lg_cmp_eq, Bool.false_eq_true, Bool.true_eq_false, reduceCtorEq, false_iff, true_iff, iff_true, iff_false, and_true, true_and, and_false, false_and, reduceIte, ite_true, ite_false, eq_self] at *)) <;> omega)), As3_135, As3_136, As3_137, Ps3_INW, Ps3_WOK, trivial⟩
      · have mh9 := nle_mx h9
        refine wa_aload_n (i := 0) rfl rfl ?_
        refine wa_iload_n (i := 2) rfl rfl ?_
        refine wa_Vi (d9 := d - 1) [.int _] [] (sp_X12_workAt G (d := d - 1) (by omega) s3 _ (by ((try simp only [vp_in_iff, Int32.lt_iff_toInt_lt, Int32.le_iff_toInt_le, ← Int32.toInt_inj, Int32.reduceToInt, n_1, n_2, n_8, Int32.toNatClampNeg, Int64.lt_iff_toInt_lt, Int64.le_iff_toInt_le, ← Int64.toInt_inj, Int64.reduceToInt, Int32.toInt_toInt64, lg_cmp_ge, lg_cmp_le, lg_cmp_gt, lg_cmp_lt, lg_cmp_eq, Bool.false_eq_true, Bool.true_eq_false, reduceCtorEq, false_iff, true_iff, iff_true, iff_false, and_true, true_and, and_false, false_and, reduceIte, ite_true, ite_false, eq_self] at *)) <;> omega) (by first | assumption | exact Or.inl rfl | exact Or.inr rfl | (((try simp only [vp_in_iff, Int32.lt_iff_toInt_lt, Int32.le_iff_toInt_le, ← Int32.toInt_inj, Int32.reduceToInt, n_1, n_2, n_8, Int32.toNatClampNeg, Int64.lt_iff_toInt_lt, Int64.le_iff_toInt_le, ← Int64.toInt_inj, Int64.reduceToInt, Int32.toInt_toInt64, lg_cmp_ge, lg_cmp_le, lg_cmp_gt, lg_cmp_lt, lg_cmp_eq, Bool.false_eq_true, Bool.true_eq_false, reduceCtorEq, false_iff, true_iff, iff_true, iff_false, and_true, true_and, and_false, false_and, reduceIte, ite_true, ite_false, eq_self] at *)) <;> omega)) As3_135 As3_136 As3_137 (ar_fm Fs3 rfl rfl A_157) (ar_fm Fs3 rfl rfl A_158) (ar_fm Fs3 rfl rfl A_159)) (rfl) rfl rfl (zr (by omega)) mk_X12_workAt ly_84 ml_12_931 (Nat.le_of_ble_eq_true rfl) (fun x11 s10 hs10 => ?_)
        obtain ⟨zs10, cx11_1, -⟩ := pI hs10
        subst zs10
        refine wa_istore_nD (lv' := [(3, .int x11), (0, .ref 84), (1, .int a0), (2, .int l2)]) (i := 3) rfl (by decide) rfl ?_
        refine wa_iload_n (i := 3) rfl rfl ?_
        refine wa_iconst (v := (-1)) (by decide) ?_
        refine wa_icmp_ne o_X12_put_114 (by decide) (fun h12 => ?_) (fun h12 => ?_)
        · refine wa_iinc (v := (1)) (lv' := fun y13 => [(2, .int y13), (3, .int x11), (0, .ref 84), (1, .int a0)]) (by decide) rfl (by decide) (fun _ => rfl) (fun y13 hy13 => ?_)
          have ty13 := i_addT hy13.symm
          clear hy13
          refine wa_goto o_X12_put_12 (by decide) ?_
          refine wa_pick [2, 3, 0] rfl ?_
          exact ih4 _ (by ((try simp only [vp_in_iff, Int32.lt_iff_toInt_lt, Int32.le_iff_toInt_le, ← Int32.toInt_inj, Int32.reduceToInt, n_1, n_2, n_8, Int32.toNatClampNeg, Int64.lt_iff_toInt_lt, Int64.le_iff_toInt_le, ← Int64.toInt_inj, Int64.reduceToInt, Int32.toInt_toInt64, lg_cmp_ge, lg_cmp_le, lg_cmp_gt, lg_cmp_lt, lg_cmp_eq, Bool.false_eq_true, Bool.true_eq_false, reduceCtorEq, false_iff, true_iff, iff_true, iff_false, and_true, true_and, and_false, false_and, reduceIte, ite_true, ite_false, eq_self] at *)) <;> omega) _ _ ⟨Fs3, As3_135, As3_136, As3_137, Ps3_WOK, (by first | assumption | (((try simp only [vp_in_iff, Int32.lt_iff_toInt_lt, Int32.le_iff_toInt_le, ← Int32.toInt_inj, Int32.reduceToInt, n_1, n_2, n_8, Int32.toNatClampNeg, Int64.lt_iff_toInt_lt, Int64.le_iff_toInt_le, ← Int64.toInt_inj, Int64.reduceToInt, Int32.toInt_toInt64, lg_cmp_ge, lg_cmp_le, lg_cmp_gt, lg_cmp_lt, lg_cmp_eq, Bool.false_eq_true, Bool.true_eq_false, reduceCtorEq, false_iff, true_iff, iff_true, iff_false, and_true, true_and, and_false, false_and, reduceIte, ite_true, ite_false, eq_self] at *)) <;> omega)), (by first | assumption | (((try simp only [vp_in_iff, Int32.lt_iff_toInt_lt, Int32.le_iff_toInt_le, ← Int32.toInt_inj, Int32.reduceToInt, n_1, n_2, n_8, Int32.toNatClampNeg, Int64.lt_iff_toInt_lt, Int64.le_iff_toInt_le, ← Int64.toInt_inj, Int64.reduceToInt, Int32.toInt_toInt64, lg_cmp_ge, lg_cmp_le, lg_cmp_gt, lg_cmp_lt, lg_cmp_eq, Bool.false_eq_true, Bool.true_eq_false, reduceCtorEq, false_iff, true_iff, iff_true, iff_false, and_true, true_and, and_false, false_and, reduceIte, ite_true, ite_false, eq_self] at *)) <;> omega)), (by ((try simp only [vp_in_iff, Int32.lt_iff_toInt_lt, Int32.le_iff_toInt_le, ← Int32.toInt_inj, Int32.reduceToInt, n_1, n_2, n_8, Int32.toNatClampNeg, Int64.lt_iff_toInt_lt, Int64.le_iff_toInt_le, ← Int64.toInt_inj, Int64.reduceToInt, Int32.toInt_toInt64, lg_cmp_ge, lg_cmp_le, lg_cmp_gt, lg_cmp_lt, lg_cmp_eq, Bool.false_eq_true, Bool.true_eq_false, reduceCtorEq, false_iff, true_iff, iff_true, iff_false, and_true, true_and, and_false, false_and, reduceIte, ite_true, ite_false, eq_self] at *)) <;> omega), (by ((try simp only [vp_in_iff, Int32.lt_iff_toInt_lt, Int32.le_iff_toInt_le, ← Int32.toInt_inj, Int32.reduceToInt, n_1, n_2, n_8, Int32.toNatClampNeg, Int64.lt_iff_toInt_lt, Int64.le_iff_toInt_le, ← Int64.toInt_inj, Int64.reduceToInt, Int32.toInt_toInt64, lg_cmp_ge, lg_cmp_le, lg_cmp_gt, lg_cmp_lt, lg_cmp_eq, Bool.false_eq_true, Bool.true_eq_false, reduceCtorEq, false_iff, true_iff, iff_true, iff_false, and_true, true_and, and_false, false_and, reduceIte, ite_true, ite_false, eq_self] at *)) <;> omega), (by first | exact inwp_0 hs3 noSuch (by ((try simp only [vp_in_iff, Int32.lt_iff_toInt_lt, Int32.le_iff_toInt_le, ← Int32.toInt_inj, Int32.reduceToInt, n_1, n_2, n_8, Int32.toNatClampNeg, Int64.lt_iff_toInt_lt, Int64.le_iff_toInt_le, ← Int64.toInt_inj, Int64.reduceToInt, Int32.toInt_toInt64, lg_cmp_ge, lg_cmp_le, lg_cmp_gt, lg_cmp_lt, lg_cmp_eq, Bool.false_eq_true, Bool.true_eq_false, reduceCtorEq, false_iff, true_iff, iff_true, iff_false, and_true, true_and, and_false, false_and, reduceIte, ite_true, ite_false, eq_self] at *)) <;> omega) | exact Is3 (by ((try simp only [vp_in_iff, Int32.lt_iff_toInt_lt, Int32.le_iff_toInt_le, ← Int32.toInt_inj, Int32.reduceToInt, n_1, n_2, n_8, Int32.toNatClampNeg, Int64.lt_iff_toInt_lt, Int64.le_iff_toInt_le, ← Int64.toInt_inj, Int64.reduceToInt, Int32.toInt_toInt64, lg_cmp_ge, lg_cmp_le, lg_cmp_gt, lg_cmp_lt, lg_cmp_eq, Bool.false_eq_true, Bool.true_eq_false, reduceCtorEq, false_iff, true_iff, iff_true, iff_false, and_true, true_and, and_false, false_and, reduceIte, ite_true, ite_false, eq_self] at *)) <;> omega) | exact inwp_found ‹INWP s3 _ _› (by assumption) (by first | rfl | exact rfl) (by ((try simp only [vp_in_iff, Int32.lt_iff_toInt_lt, Int32.le_iff_toInt_le, ← Int32.toInt_inj, Int32.reduceToInt, n_1, n_2, n_8, Int32.toNatClampNeg, Int64.lt_iff_toInt_lt, Int64.le_iff_toInt_le, ← Int64.toInt_inj, Int64.reduceToInt, Int32.toInt_toInt64, lg_cmp_ge, lg_cmp_le, lg_cmp_gt, lg_cmp_lt, lg_cmp_eq, Bool.false_eq_true, Bool.true_eq_false, reduceCtorEq, false_iff, true_iff, iff_true, iff_false, and_true, true_and, and_false, false_and, reduceIte, ite_true, ite_false, eq_self] at *)) <;> omega) (by ((try simp only [vp_in_iff, Int32.lt_iff_toInt_lt, Int32.le_iff_toInt_le, ← Int32.toInt_inj, Int32.reduceToInt, n_1, n_2, n_8, Int32.toNatClampNeg, Int64.lt_iff_toInt_lt, Int64.le_iff_toInt_le, ← Int64.toInt_inj, Int64.reduceToInt, Int32.toInt_toInt64, lg_cmp_ge, lg_cmp_le, lg_cmp_gt, lg_cmp_lt, lg_cmp_eq, Bool.false_eq_true, Bool.true_eq_false, reduceCtorEq, false_iff, true_iff, iff_true, iff_false, and_true, true_and, and_false, false_and, reduceIte, ite_true, ite_false, eq_self] at *)) <;> omega)), trivial⟩ rfl
        · refine wa_aload_n (i := 0) rfl rfl ?_
          refine wa_geti ck_12 fl_12_928 ly_84 ?_
          refine wa_istore_nD (lv' := [(3, .int (gi s3 84 119)), (0, .ref 84), (1, .int a0), (2, .int l2)]) (i := 3) rfl (by decide) rfl ?_
          refine wa_aload_n (i := 0) rfl rfl ?_
          refine wa_getr ck_12 fl_12_298 ly_84 rf_84_118 ?_
          refine wa_iload_n (i := 3) rfl rfl ?_
          refine wa_aload_n (i := 0) rfl rfl ?_
          refine wa_getr ck_12 fl_12_232 ly_84 rf_84_88 ?_
          refine wa_iload_n (i := 2) rfl rfl ?_
          refine wa_iald ly_157 (by ((try simp only [vp_in_iff, Int32.lt_iff_toInt_lt, Int32.le_iff_toInt_le, ← Int32.toInt_inj, Int32.reduceToInt, n_1, n_2, n_8, Int32.toNatClampNeg, Int64.lt_iff_toInt_lt, Int64.le_iff_toInt_le, ← Int64.toInt_inj, Int64.reduceToInt, Int32.toInt_toInt64, lg_cmp_ge, lg_cmp_le, lg_cmp_gt, lg_cmp_lt, lg_cmp_eq, Bool.false_eq_true, Bool.true_eq_false, reduceCtorEq, false_iff, true_iff, iff_true, iff_false, and_true, true_and, and_false, false_and, reduceIte, ite_true, ite_false, eq_self] at *)) <;> omega) ?_
          refine wa_top (fun v14 hv14 => ?_)
          have rv14 : 0 ≤ v14.toInt ∧ v14.toInt ≤ 12 := by rw [← hv14]; exact ar_at (ar_fm Fs3 rfl rfl A_157) _
          have qv14 := hv14
          clear hv14
          refine wa_iast ly_135 (by ((try simp only [vp_in_iff, Int32.lt_iff_toInt_lt, Int32.le_iff_toInt_le, ← Int32.toInt_inj, Int32.reduceToInt, n_1, n_2, n_8, Int32.toNatClampNeg, Int64.lt_iff_toInt_lt, Int64.le_iff_toInt_le, ← Int64.toInt_inj, Int64.reduceToInt, Int32.toInt_toInt64, lg_cmp_ge, lg_cmp_le, lg_cmp_gt, lg_cmp_lt, lg_cmp_eq, Bool.false_eq_true, Bool.true_eq_false, reduceCtorEq, false_iff, true_iff, iff_true, iff_false, and_true, true_and, and_false, false_and, reduceIte, ite_true, ite_false, eq_self] at *)) <;> omega) (fun s15 hs15 => ?_)
          have Fs15 : Fm [133, 135, 136, 137] [119] σ s15 := by rw [hs15]; exact Fm.si Fs3 rfl
          have Vs15 : 0 ≤ (v14 : Int32).toInt ∧ (v14 : Int32).toInt ≤ 12 := by ((try simp only [vp_in_iff, Int32.lt_iff_toInt_lt, Int32.le_iff_toInt_le, ← Int32.toInt_inj, Int32.reduceToInt, n_1, n_2, n_8, Int32.toNatClampNeg, Int64.lt_iff_toInt_lt, Int64.le_iff_toInt_le, ← Int64.toInt_inj, Int64.reduceToInt, Int32.toInt_toInt64, lg_cmp_ge, lg_cmp_le, lg_cmp_gt, lg_cmp_lt, lg_cmp_eq, Bool.false_eq_true, Bool.true_eq_false, reduceCtorEq, false_iff, true_iff, iff_true, iff_false, and_true, true_and, and_false, false_and, reduceIte, ite_true, ite_false, eq_self] at *)) <;> omega
          have Is15 := inwp_5 hs15 ‹INWP s3 _ _› (by ((try simp only [vp_in_iff, Int32.lt_iff_toInt_lt, Int32.le_iff_toInt_le, ← Int32.toInt_inj, Int32.reduceToInt, n_1, n_2, n_8, Int32.toNatClampNeg, Int64.lt_iff_toInt_lt, Int64.le_iff_toInt_le, ← Int64.toInt_inj, Int64.reduceToInt, Int32.toInt_toInt64, lg_cmp_ge, lg_cmp_le, lg_cmp_gt, lg_cmp_lt, lg_cmp_eq, Bool.false_eq_true, Bool.true_eq_false, reduceCtorEq, false_iff, true_iff, iff_true, iff_false, and_true, true_and, and_false, false_and, reduceIte, ite_true, ite_false, eq_self] at *)) <;> omega)
          refine wa_aload_n (i := 0) rfl rfl ?_
          refine wa_getr ck_12 fl_12_295 ly_84 rf_84_117 ?_
          refine wa_iload_n (i := 3) rfl rfl ?_
          refine wa_aload_n (i := 0) rfl rfl ?_
          refine wa_getr ck_12 fl_12_229 ly_84 rf_84_87 ?_
          refine wa_iload_n (i := 2) rfl rfl ?_
          refine wa_iald ly_158 (by ((try simp only [vp_in_iff, Int32.lt_iff_toInt_lt, Int32.le_iff_toInt_le, ← Int32.toInt_inj, Int32.reduceToInt, n_1, n_2, n_8, Int32.toNatClampNeg, Int64.lt_iff_toInt_lt, Int64.le_iff_toInt_le, ← Int64.toInt_inj, Int64.reduceToInt, Int32.toInt_toInt64, lg_cmp_ge, lg_cmp_le, lg_cmp_gt, lg_cmp_lt, lg_cmp_eq, Bool.false_eq_true, Bool.true_eq_false, reduceCtorEq, false_iff, true_iff, iff_true, iff_false, and_true, true_and, and_false, false_and, reduceIte, ite_true, ite_false, eq_self] at *)) <;> omega) ?_
          refine wa_top (fun v16 hv16 => ?_)
          have rv16 : -99999 ≤ v16.toInt ∧ v16.toInt ≤ 99999 := by rw [← hv16]; exact ar_at (ar_ni hs15 (by decide) (ar_fm Fs3 rfl rfl A_158)) _
          have qv16 := hv16
          clear hv16
          refine wa_iast ly_136 (by ((try simp only [vp_in_iff, Int32.lt_iff_toInt_lt, Int32.le_iff_toInt_le, ← Int32.toInt_inj, Int32.reduceToInt, n_1, n_2, n_8, Int32.toNatClampNeg, Int64.lt_iff_toInt_lt, Int64.le_iff_toInt_le, ← Int64.toInt_inj, Int64.reduceToInt, Int32.toInt_toInt64, lg_cmp_ge, lg_cmp_le, lg_cmp_gt, lg_cmp_lt, lg_cmp_eq, Bool.false_eq_true, Bool.true_eq_false, reduceCtorEq, false_iff, true_iff, iff_true, iff_false, and_true, true_and, and_false, false_and, reduceIte, ite_true, ite_false, eq_self] at *)) <;> omega) (fun s17 hs17 => ?_)
          have Fs17 : Fm [133, 135, 136, 137] [119] σ s17 := by rw [hs17]; exact Fm.si Fs15 rfl
          have Vs17 : -99999 ≤ (v16 : Int32).toInt ∧ (v16 : Int32).toInt ≤ 99999 := by ((try simp only [vp_in_iff, Int32.lt_iff_toInt_lt, Int32.le_iff_toInt_le, ← Int32.toInt_inj, Int32.reduceToInt, n_1, n_2, n_8, Int32.toNatClampNeg, Int64.lt_iff_toInt_lt, Int64.le_iff_toInt_le, ← Int64.toInt_inj, Int64.reduceToInt, Int32.toInt_toInt64, lg_cmp_ge, lg_cmp_le, lg_cmp_gt, lg_cmp_lt, lg_cmp_eq, Bool.false_eq_true, Bool.true_eq_false, reduceCtorEq, false_iff, true_iff, iff_true, iff_false, and_true, true_and, and_false, false_and, reduceIte, ite_true, ite_false, eq_self] at *)) <;> omega
          have Is17 := inwp_6 hs17 ‹INWP s15 _ _› (by first | (rw [(nxq_gi_si hs15 (by decide))]; ((try simp only [vp_in_iff, Int32.lt_iff_toInt_lt, Int32.le_iff_toInt_le, ← Int32.toInt_inj, Int32.reduceToInt, n_1, n_2, n_8, Int32.toNatClampNeg, Int64.lt_iff_toInt_lt, Int64.le_iff_toInt_le, ← Int64.toInt_inj, Int64.reduceToInt, Int32.toInt_toInt64, lg_cmp_ge, lg_cmp_le, lg_cmp_gt, lg_cmp_lt, lg_cmp_eq, Bool.false_eq_true, Bool.true_eq_false, reduceCtorEq, false_iff, true_iff, iff_true, iff_false, and_true, true_and, and_false, false_and, reduceIte, ite_true, ite_false, eq_self] at *)) <;> omega) | (((try simp only [vp_in_iff, Int32.lt_iff_toInt_lt, Int32.le_iff_toInt_le, ← Int32.toInt_inj, Int32.reduceToInt, n_1, n_2, n_8, Int32.toNatClampNeg, Int64.lt_iff_toInt_lt, Int64.le_iff_toInt_le, ← Int64.toInt_inj, Int64.reduceToInt, Int32.toInt_toInt64, lg_cmp_ge, lg_cmp_le, lg_cmp_gt, lg_cmp_lt, lg_cmp_eq, Bool.false_eq_true, Bool.true_eq_false, reduceCtorEq, false_iff, true_iff, iff_true, iff_false, and_true, true_and, and_false, false_and, reduceIte, ite_true, ite_false, eq_self] at *)) <;> omega))
          have Ps17_WOK := wok_add hs15 hs17 Ps3_WOK (AOK_of (fun k => Fm.gi Fs3 (q := 157) (k := k) rfl rfl) (fun k => Fm.gi Fs3 (q := 158) (k := k) rfl rfl) P_AOK) (by assumption) (by assumption)
          have Es17 := put_E (i := 0) hs15 hs17 (by assumption) (by assumption) (by decide)
          refine wa_iconst (v := 0) (by decide) ?_
          refine wa_istoreD (lv' := [(4, .int 0), (3, .int (gi s3 84 119)), (0, .ref 84), (1, .int a0), (2, .int l2)]) (by decide) rfl ?_
          refine wa_pick [2, 3, 4, 1, 0] rfl ?_
          have hi20 : ∀ (n9_70 : Nat) (l4 : Int32) (s18 : St), ((Fm [133, 135, 136, 137] [119] σ s18) ∧ (gi s18 84 119 = gi s3 84 119) ∧ (AR ap_135 s18 135) ∧ (AR ap_136 s18 136) ∧ (AR ap_137 s18 137) ∧ (WOK s18) ∧ (0 ≤ l4.toInt) ∧ (INWP s18 (a0).toNatClampNeg (l2).toNatClampNeg) ∧ (0 ≤ l4.toInt ∧ l4.toInt ≤ 4) ∧ ((gi s18 157 (l2).toNatClampNeg = gi s18 135 ((gi s3 84 119)).toNatClampNeg ∧ gi s18 158 (l2).toNatClampNeg = gi s18 136 ((gi s3 84 119)).toNatClampNeg) ∧ ∀ v : Nat, (v : Int) < l4.toInt → gi s18 159 (4 * (l2).toNatClampNeg + v) = gi s18 137 (4 * ((gi s3 84 119)).toNatClampNeg + v)) ∧ (True)) → (2147483647 - l4.toInt).toNat = n9_70 → WA G M_X12_put (ZM G M_X12_put d (fun r σ' => Fm [133, 135, 136, 137] [119] σ σ' ∧ ((gi σ' 84 119).toInt ≤ (gi σ 84 119).toInt + 24) ∧ (0 ≤ (gi σ' 84 119).toInt) ∧ AR ap_135 σ' 135 ∧ AR ap_136 σ' 136 ∧ AR ap_137 σ' 137 ∧ INW σ' ∧ WOK σ' ∧ True)) B_X12_put_70 [(0, .ref 84), (1, .int a0), (2, .int l2), (3, .int (gi s3 84 119)), (4, .int l4)] [] s18 := by
            intro n9_70
            induction n9_70 using Nat.strongRecOn with
            | _ n9_70 ih19 =>
              intro l4 s18 i9 m9_70
              obtain ⟨Fs18, khi20_0, As18_135, As18_136, As18_137, Ps18_WOK, jhi20_0, jhi20_1, jhi20_2, jhi20_3, -⟩ := i9
              have ul4 := Int32.toInt_lt l4
              have wl4 := Int32.le_toInt l4
              refine wa_iload rfl ?_
              refine wa_iconst (v := 4) (by decide) ?_
              refine wa_icmp_ge o_X12_put_104 (by decide) (fun h21 => ?_) (fun h21 => ?_)
              · refine wa_aload_n (i := 0) rfl rfl ?_
                refine wa_dup rfl ?_
                refine wa_geti ck_12 fl_12_928 ly_84 ?_
                refine wa_rw (khi20_0) ?_
                refine wa_iconst (v := 1) (by decide) ?_
                refine wa_iadd ?_
                refine wa_top (fun v22 hv22 => ?_)
                have tv22 := i_addT hv22
                clear hv22
                refine wa_puti ck_12 fl_12_928 ly_84 (fun s23 hs23 => ?_)
                have Fs23 : Fm [133, 135, 136, 137] [119] σ s23 := by rw [hs23]; exact Fm.si Fs18 rfl
                have Is23 := fun {x9 : Nat} (hx9 : x9 = _ + 1) => inwp_add (K := ((gi s3 84 119)).toNatClampNeg) hs23 ‹INWP s18 _ _› (by first | (rw [(khi20_0)]; ((try simp only [vp_in_iff, Int32.lt_iff_toInt_lt, Int32.le_iff_toInt_le, ← Int32.toInt_inj, Int32.reduceToInt, n_1, n_2, n_8, Int32.toNatClampNeg, Int64.lt_iff_toInt_lt, Int64.le_iff_toInt_le, ← Int64.toInt_inj, Int64.reduceToInt, Int32.toInt_toInt64, lg_cmp_ge, lg_cmp_le, lg_cmp_gt, lg_cmp_lt, lg_cmp_eq, Bool.false_eq_true, Bool.true_eq_false, reduceCtorEq, false_iff, true_iff, iff_true, iff_false, and_true, true_and, and_false, false_and, reduceIte, ite_true, ite_false, eq_self] at *)) <;> omega) | (((try simp only [vp_in_iff, Int32.lt_iff_toInt_lt, Int32.le_iff_toInt_le, ← Int32.toInt_inj, Int32.reduceToInt, n_1, n_2, n_8, Int32.toNatClampNeg, Int64.lt_iff_toInt_lt, Int64.le_iff_toInt_le, ← Int64.toInt_inj, Int64.reduceToInt, Int32.toInt_toInt64, lg_cmp_ge, lg_cmp_le, lg_cmp_gt, lg_cmp_lt, lg_cmp_eq, Bool.false_eq_true, Bool.true_eq_false, reduceCtorEq, false_iff, true_iff, iff_true, iff_false, and_true, true_and, and_false, false_and, reduceIte, ite_true, ite_false, eq_self] at *)) <;> omega)) (by first | (rw [(khi20_0)]; ((try simp only [vp_in_iff, Int32.lt_iff_toInt_lt, Int32.le_iff_toInt_le, ← Int32.toInt_inj, Int32.reduceToInt, n_1, n_2, n_8, Int32.toNatClampNeg, Int64.lt_iff_toInt_lt, Int64.le_iff_toInt_le, ← Int64.toInt_inj, Int64.reduceToInt, Int32.toInt_toInt64, lg_cmp_ge, lg_cmp_le, lg_cmp_gt, lg_cmp_lt, lg_cmp_eq, Bool.false_eq_true, Bool.true_eq_false, reduceCtorEq, false_iff, true_iff, iff_true, iff_false, and_true, true_and, and_false, false_and, reduceIte, ite_true, ite_false, eq_self] at *)) <;> omega) | (((try simp only [vp_in_iff, Int32.lt_iff_toInt_lt, Int32.le_iff_toInt_le, ← Int32.toInt_inj, Int32.reduceToInt, n_1, n_2, n_8, Int32.toNatClampNeg, Int64.lt_iff_toInt_lt, Int64.le_iff_toInt_le, ← Int64.toInt_inj, Int64.reduceToInt, Int32.toInt_toInt64, lg_cmp_ge, lg_cmp_le, lg_cmp_gt, lg_cmp_lt, lg_cmp_eq, Bool.false_eq_true, Bool.true_eq_false, reduceCtorEq, false_iff, true_iff, iff_true, iff_false, and_true, true_and, and_false, false_and, reduceIte, ite_true, ite_false, eq_self] at *)) <;> omega)) (put_Q (i := l4) (by assumption) (by ((try simp only [vp_in_iff, Int32.lt_iff_toInt_lt, Int32.le_iff_toInt_le, ← Int32.toInt_inj, Int32.reduceToInt, n_1, n_2, n_8, Int32.toNatClampNeg, Int64.lt_iff_toInt_lt, Int64.le_iff_toInt_le, ← Int64.toInt_inj, Int64.reduceToInt, Int32.toInt_toInt64, lg_cmp_ge, lg_cmp_le, lg_cmp_gt, lg_cmp_lt, lg_cmp_eq, Bool.false_eq_true, Bool.true_eq_false, reduceCtorEq, false_iff, true_iff, iff_true, iff_false, and_true, true_and, and_false, false_and, reduceIte, ite_true, ite_false, eq_self] at *)) <;> omega)) hx9
                refine wa_iinc (v := (1)) (lv' := fun y24 => [(2, .int y24), (0, .ref 84), (1, .int a0), (3, .int (gi s3 84 119)), (4, .int l4)]) (by decide) rfl (by decide) (fun _ => rfl) (fun y24 hy24 => ?_)
                have ty24 := i_addT hy24.symm
                clear hy24
                refine wa_goto o_X12_put_12 (by decide) ?_
                refine wa_pick [1, 2, 0] rfl ?_
                exact ih4 _ (by ((try simp only [vp_in_iff, Int32.lt_iff_toInt_lt, Int32.le_iff_toInt_le, ← Int32.toInt_inj, Int32.reduceToInt, n_1, n_2, n_8, Int32.toNatClampNeg, Int64.lt_iff_toInt_lt, Int64.le_iff_toInt_le, ← Int64.toInt_inj, Int64.reduceToInt, Int32.toInt_toInt64, lg_cmp_ge, lg_cmp_le, lg_cmp_gt, lg_cmp_lt, lg_cmp_eq, Bool.false_eq_true, Bool.true_eq_false, reduceCtorEq, false_iff, true_iff, iff_true, iff_false, and_true, true_and, and_false, false_and, reduceIte, ite_true, ite_false, eq_self] at *)) <;> omega) _ _ ⟨Fs23, (ar_ni hs23 (by decide) As18_135), (ar_ni hs23 (by decide) As18_136), (ar_ni hs23 (by decide) As18_137), (WOK_of (fun k => nxq_gi_si hs23 (by decide)) (fun k => nxq_gi_si hs23 (by decide)) Ps18_WOK), (by rw [nxe_gi_si hs23]; first | assumption | (((try simp only [vp_in_iff, Int32.lt_iff_toInt_lt, Int32.le_iff_toInt_le, ← Int32.toInt_inj, Int32.reduceToInt, n_1, n_2, n_8, Int32.toNatClampNeg, Int64.lt_iff_toInt_lt, Int64.le_iff_toInt_le, ← Int64.toInt_inj, Int64.reduceToInt, Int32.toInt_toInt64, lg_cmp_ge, lg_cmp_le, lg_cmp_gt, lg_cmp_lt, lg_cmp_eq, Bool.false_eq_true, Bool.true_eq_false, reduceCtorEq, false_iff, true_iff, iff_true, iff_false, and_true, true_and, and_false, false_and, reduceIte, ite_true, ite_false, eq_self] at *)) <;> omega)), (by rw [nxe_gi_si hs23]; first | assumption | (((try simp only [vp_in_iff, Int32.lt_iff_toInt_lt, Int32.le_iff_toInt_le, ← Int32.toInt_inj, Int32.reduceToInt, n_1, n_2, n_8, Int32.toNatClampNeg, Int64.lt_iff_toInt_lt, Int64.le_iff_toInt_le, ← Int64.toInt_inj, Int64.reduceToInt, Int32.toInt_toInt64, lg_cmp_ge, lg_cmp_le, lg_cmp_gt, lg_cmp_lt, lg_cmp_eq, Bool.false_eq_true, Bool.true_eq_false, reduceCtorEq, false_iff, true_iff, iff_true, iff_false, and_true, true_and, and_false, false_and, reduceIte, ite_true, ite_false, eq_self] at *)) <;> omega)), (by ((try simp only [vp_in_iff, Int32.lt_iff_toInt_lt, Int32.le_iff_toInt_le, ← Int32.toInt_inj, Int32.reduceToInt, n_1, n_2, n_8, Int32.toNatClampNeg, Int64.lt_iff_toInt_lt, Int64.le_iff_toInt_le, ← Int64.toInt_inj, Int64.reduceToInt, Int32.toInt_toInt64, lg_cmp_ge, lg_cmp_le, lg_cmp_gt, lg_cmp_lt, lg_cmp_eq, Bool.false_eq_true, Bool.true_eq_false, reduceCtorEq, false_iff, true_iff, iff_true, iff_false, and_true, true_and, and_false, false_and, reduceIte, ite_true, ite_false, eq_self] at *)) <;> omega), (by ((try simp only [vp_in_iff, Int32.lt_iff_toInt_lt, Int32.le_iff_toInt_le, ← Int32.toInt_inj, Int32.reduceToInt, n_1, n_2, n_8, Int32.toNatClampNeg, Int64.lt_iff_toInt_lt, Int64.le_iff_toInt_le, ← Int64.toInt_inj, Int64.reduceToInt, Int32.toInt_toInt64, lg_cmp_ge, lg_cmp_le, lg_cmp_gt, lg_cmp_lt, lg_cmp_eq, Bool.false_eq_true, Bool.true_eq_false, reduceCtorEq, false_iff, true_iff, iff_true, iff_false, and_true, true_and, and_false, false_and, reduceIte, ite_true, ite_false, eq_self] at *)) <;> omega), (by first | exact inwp_0 hs23 noSuch (by ((try simp only [vp_in_iff, Int32.lt_iff_toInt_lt, Int32.le_iff_toInt_le, ← Int32.toInt_inj, Int32.reduceToInt, n_1, n_2, n_8, Int32.toNatClampNeg, Int64.lt_iff_toInt_lt, Int64.le_iff_toInt_le, ← Int64.toInt_inj, Int64.reduceToInt, Int32.toInt_toInt64, lg_cmp_ge, lg_cmp_le, lg_cmp_gt, lg_cmp_lt, lg_cmp_eq, Bool.false_eq_true, Bool.true_eq_false, reduceCtorEq, false_iff, true_iff, iff_true, iff_false, and_true, true_and, and_false, false_and, reduceIte, ite_true, ite_false, eq_self] at *)) <;> omega) | exact Is23 (by ((try simp only [vp_in_iff, Int32.lt_iff_toInt_lt, Int32.le_iff_toInt_le, ← Int32.toInt_inj, Int32.reduceToInt, n_1, n_2, n_8, Int32.toNatClampNeg, Int64.lt_iff_toInt_lt, Int64.le_iff_toInt_le, ← Int64.toInt_inj, Int64.reduceToInt, Int32.toInt_toInt64, lg_cmp_ge, lg_cmp_le, lg_cmp_gt, lg_cmp_lt, lg_cmp_eq, Bool.false_eq_true, Bool.true_eq_false, reduceCtorEq, false_iff, true_iff, iff_true, iff_false, and_true, true_and, and_false, false_and, reduceIte, ite_true, ite_false, eq_self] at *)) <;> omega) | exact inwp_found ‹INWP s23 _ _› (by assumption) (by first | rfl | exact (nxe_gi_si hs23)) (by ((try simp only [vp_in_iff, Int32.lt_iff_toInt_lt, Int32.le_iff_toInt_le, ← Int32.toInt_inj, Int32.reduceToInt, n_1, n_2, n_8, Int32.toNatClampNeg, Int64.lt_iff_toInt_lt, Int64.le_iff_toInt_le, ← Int64.toInt_inj, Int64.reduceToInt, Int32.toInt_toInt64, lg_cmp_ge, lg_cmp_le, lg_cmp_gt, lg_cmp_lt, lg_cmp_eq, Bool.false_eq_true, Bool.true_eq_false, reduceCtorEq, false_iff, true_iff, iff_true, iff_false, and_true, true_and, and_false, false_and, reduceIte, ite_true, ite_false, eq_self] at *)) <;> omega) (by ((try simp only [vp_in_iff, Int32.lt_iff_toInt_lt, Int32.le_iff_toInt_le, ← Int32.toInt_inj, Int32.reduceToInt, n_1, n_2, n_8, Int32.toNatClampNeg, Int64.lt_iff_toInt_lt, Int64.le_iff_toInt_le, ← Int64.toInt_inj, Int64.reduceToInt, Int32.toInt_toInt64, lg_cmp_ge, lg_cmp_le, lg_cmp_gt, lg_cmp_lt, lg_cmp_eq, Bool.false_eq_true, Bool.true_eq_false, reduceCtorEq, false_iff, true_iff, iff_true, iff_false, and_true, true_and, and_false, false_and, reduceIte, ite_true, ite_false, eq_self] at *)) <;> omega)), trivial⟩ rfl
              · have mh21 := nle_mx h21
                refine wa_aload_n (i := 0) rfl rfl ?_
                refine wa_getr ck_12 fl_12_292 ly_84 rf_84_116 ?_
                refine wa_iconst (v := 4) (by decide) ?_
                refine wa_iload_n (i := 3) rfl rfl ?_
                refine wa_imul ?_
                refine wa_top (fun v25 hv25 => ?_)
                have tv25 := i_mulT hv25
                clear hv25
                refine wa_iload rfl ?_
                refine wa_iadd ?_
                refine wa_top (fun v26 hv26 => ?_)
                have tv26 := i_addT hv26
                clear hv26
                refine wa_aload_n (i := 0) rfl rfl ?_
                refine wa_getr ck_12 fl_12_226 ly_84 rf_84_86 ?_
                refine wa_iconst (v := 4) (by decide) ?_
                refine wa_iload_n (i := 2) rfl rfl ?_
                refine wa_imul ?_
                refine wa_top (fun v27 hv27 => ?_)
                have tv27 := i_mulT hv27
                clear hv27
                refine wa_iload rfl ?_
                refine wa_iadd ?_
                refine wa_top (fun v28 hv28 => ?_)
                have tv28 := i_addT hv28
                clear hv28
                refine wa_iald ly_159 (by ((try simp only [vp_in_iff, Int32.lt_iff_toInt_lt, Int32.le_iff_toInt_le, ← Int32.toInt_inj, Int32.reduceToInt, n_1, n_2, n_8, Int32.toNatClampNeg, Int64.lt_iff_toInt_lt, Int64.le_iff_toInt_le, ← Int64.toInt_inj, Int64.reduceToInt, Int32.toInt_toInt64, lg_cmp_ge, lg_cmp_le, lg_cmp_gt, lg_cmp_lt, lg_cmp_eq, Bool.false_eq_true, Bool.true_eq_false, reduceCtorEq, false_iff, true_iff, iff_true, iff_false, and_true, true_and, and_false, false_and, reduceIte, ite_true, ite_false, eq_self] at *)) <;> omega) ?_
                refine wa_top (fun v29 hv29 => ?_)
                have rv29 : -20 ≤ v29.toInt ∧ v29.toInt ≤ 20 := by rw [← hv29]; exact ar_at (ar_fm Fs18 rfl rfl A_159) _
                have qv29 : gi s18 159 (4 * (l2).toNatClampNeg + (l4).toNatClampNeg) = v29 := by rw [show 4 * (l2).toNatClampNeg + (l4).toNatClampNeg = (v28).toNatClampNeg from by ((try simp only [vp_in_iff, Int32.lt_iff_toInt_lt, Int32.le_iff_toInt_le, ← Int32.toInt_inj, Int32.reduceToInt, n_1, n_2, n_8, Int32.toNatClampNeg, Int64.lt_iff_toInt_lt, Int64.le_iff_toInt_le, ← Int64.toInt_inj, Int64.reduceToInt, Int32.toInt_toInt64, lg_cmp_ge, lg_cmp_le, lg_cmp_gt, lg_cmp_lt, lg_cmp_eq, Bool.false_eq_true, Bool.true_eq_false, reduceCtorEq, false_iff, true_iff, iff_true, iff_false, and_true, true_and, and_false, false_and, reduceIte, ite_true, ite_false, eq_self] at *)) <;> omega]; exact hv29
                have pv29 := hv29
                clear hv29
                refine wa_iast ly_137 (by ((try simp only [vp_in_iff, Int32.lt_iff_toInt_lt, Int32.le_iff_toInt_le, ← Int32.toInt_inj, Int32.reduceToInt, n_1, n_2, n_8, Int32.toNatClampNeg, Int64.lt_iff_toInt_lt, Int64.le_iff_toInt_le, ← Int64.toInt_inj, Int64.reduceToInt, Int32.toInt_toInt64, lg_cmp_ge, lg_cmp_le, lg_cmp_gt, lg_cmp_lt, lg_cmp_eq, Bool.false_eq_true, Bool.true_eq_false, reduceCtorEq, false_iff, true_iff, iff_true, iff_false, and_true, true_and, and_false, false_and, reduceIte, ite_true, ite_false, eq_self] at *)) <;> omega) (fun s30 hs30 => ?_)
                have Fs30 : Fm [133, 135, 136, 137] [119] σ s30 := by rw [hs30]; exact Fm.si Fs18 rfl
                have Vs30 : -20 ≤ (v29 : Int32).toInt ∧ (v29 : Int32).toInt ≤ 20 := by ((try simp only [vp_in_iff, Int32.lt_iff_toInt_lt, Int32.le_iff_toInt_le, ← Int32.toInt_inj, Int32.reduceToInt, n_1, n_2, n_8, Int32.toNatClampNeg, Int64.lt_iff_toInt_lt, Int64.le_iff_toInt_le, ← Int64.toInt_inj, Int64.reduceToInt, Int32.toInt_toInt64, lg_cmp_ge, lg_cmp_le, lg_cmp_gt, lg_cmp_lt, lg_cmp_eq, Bool.false_eq_true, Bool.true_eq_false, reduceCtorEq, false_iff, true_iff, iff_true, iff_false, and_true, true_and, and_false, false_and, reduceIte, ite_true, ite_false, eq_self] at *)) <;> omega
                have Is30 := inwp_7 hs30 ‹INWP s18 _ _› (by ((try simp only [vp_in_iff, Int32.lt_iff_toInt_lt, Int32.le_iff_toInt_le, ← Int32.toInt_inj, Int32.reduceToInt, n_1, n_2, n_8, Int32.toNatClampNeg, Int64.lt_iff_toInt_lt, Int64.le_iff_toInt_le, ← Int64.toInt_inj, Int64.reduceToInt, Int32.toInt_toInt64, lg_cmp_ge, lg_cmp_le, lg_cmp_gt, lg_cmp_lt, lg_cmp_eq, Bool.false_eq_true, Bool.true_eq_false, reduceCtorEq, false_iff, true_iff, iff_true, iff_false, and_true, true_and, and_false, false_and, reduceIte, ite_true, ite_false, eq_self] at *)) <;> omega)
                refine wa_iinc (v := (1)) (lv' := fun y31 => [(4, .int y31), (0, .ref 84), (1, .int a0), (2, .int l2), (3, .int (gi s3 84 119))]) (by decide) rfl (by decide) (fun _ => rfl) (fun y31 hy31 => ?_)
                have ty31 := i_addT hy31.symm
                clear hy31
                refine wa_goto o_X12_put_70 (by decide) ?_
                refine wa_pick [1, 2, 3, 4, 0] rfl ?_
                exact ih19 _ (by ((try simp only [vp_in_iff, Int32.lt_iff_toInt_lt, Int32.le_iff_toInt_le, ← Int32.toInt_inj, Int32.reduceToInt, n_1, n_2, n_8, Int32.toNatClampNeg, Int64.lt_iff_toInt_lt, Int64.le_iff_toInt_le, ← Int64.toInt_inj, Int64.reduceToInt, Int32.toInt_toInt64, lg_cmp_ge, lg_cmp_le, lg_cmp_gt, lg_cmp_lt, lg_cmp_eq, Bool.false_eq_true, Bool.true_eq_false, reduceCtorEq, false_iff, true_iff, iff_true, iff_false, and_true, true_and, and_false, false_and, reduceIte, ite_true, ite_false, eq_self] at *)) <;> omega) _ _ ⟨Fs30, ((nxq_gi_si hs30 (by decide)).trans (khi20_0)), (ar_ni hs30 (by decide) As18_135), (ar_ni hs30 (by decide) As18_136), (ar_w hs30 Vs30 As18_137), (WOK_of (fun k => nxq_gi_si hs30 (by decide)) (fun k => nxq_gi_si hs30 (by decide)) Ps18_WOK), (by ((try simp only [vp_in_iff, Int32.lt_iff_toInt_lt, Int32.le_iff_toInt_le, ← Int32.toInt_inj, Int32.reduceToInt, n_1, n_2, n_8, Int32.toNatClampNeg, Int64.lt_iff_toInt_lt, Int64.le_iff_toInt_le, ← Int64.toInt_inj, Int64.reduceToInt, Int32.toInt_toInt64, lg_cmp_ge, lg_cmp_le, lg_cmp_gt, lg_cmp_lt, lg_cmp_eq, Bool.false_eq_true, Bool.true_eq_false, reduceCtorEq, false_iff, true_iff, iff_true, iff_false, and_true, true_and, and_false, false_and, reduceIte, ite_true, ite_false, eq_self] at *)) <;> omega), (by ((try simp only [vp_in_iff, Int32.lt_iff_toInt_lt, Int32.le_iff_toInt_le, ← Int32.toInt_inj, Int32.reduceToInt, n_1, n_2, n_8, Int32.toNatClampNeg, Int64.lt_iff_toInt_lt, Int64.le_iff_toInt_le, ← Int64.toInt_inj, Int64.reduceToInt, Int32.toInt_toInt64, lg_cmp_ge, lg_cmp_le, lg_cmp_gt, lg_cmp_lt, lg_cmp_eq, Bool.false_eq_true, Bool.true_eq_false, reduceCtorEq, false_iff, true_iff, iff_true, iff_false, and_true, true_and, and_false, false_and, reduceIte, ite_true, ite_false, eq_self] at *)) <;> omega), (by ((try simp only [vp_in_iff, Int32.lt_iff_toInt_lt, Int32.le_iff_toInt_le, ← Int32.toInt_inj, Int32.reduceToInt, n_1, n_2, n_8, Int32.toNatClampNeg, Int64.lt_iff_toInt_lt, Int64.le_iff_toInt_le, ← Int64.toInt_inj, Int64.reduceToInt, Int32.toInt_toInt64, lg_cmp_ge, lg_cmp_le, lg_cmp_gt, lg_cmp_lt, lg_cmp_eq, Bool.false_eq_true, Bool.true_eq_false, reduceCtorEq, false_iff, true_iff, iff_true, iff_false, and_true, true_and, and_false, false_and, reduceIte, ite_true, ite_false, eq_self] at *)) <;> omega), (by first | exact Es30 | exact put_F hs30 (by assumption) (by ((try simp only [vp_in_iff, Int32.lt_iff_toInt_lt, Int32.le_iff_toInt_le, ← Int32.toInt_inj, Int32.reduceToInt, n_1, n_2, n_8, Int32.toNatClampNeg, Int64.lt_iff_toInt_lt, Int64.le_iff_toInt_le, ← Int64.toInt_inj, Int64.reduceToInt, Int32.toInt_toInt64, lg_cmp_ge, lg_cmp_le, lg_cmp_gt, lg_cmp_lt, lg_cmp_eq, Bool.false_eq_true, Bool.true_eq_false, reduceCtorEq, false_iff, true_iff, iff_true, iff_false, and_true, true_and, and_false, false_and, reduceIte, ite_true, ite_false, eq_self] at *)) <;> omega) (by ((try simp only [vp_in_iff, Int32.lt_iff_toInt_lt, Int32.le_iff_toInt_le, ← Int32.toInt_inj, Int32.reduceToInt, n_1, n_2, n_8, Int32.toNatClampNeg, Int64.lt_iff_toInt_lt, Int64.le_iff_toInt_le, ← Int64.toInt_inj, Int64.reduceToInt, Int32.toInt_toInt64, lg_cmp_ge, lg_cmp_le, lg_cmp_gt, lg_cmp_lt, lg_cmp_eq, Bool.false_eq_true, Bool.true_eq_false, reduceCtorEq, false_iff, true_iff, iff_true, iff_false, and_true, true_and, and_false, false_and, reduceIte, ite_true, ite_false, eq_self] at *)) <;> omega) (by ((try simp only [vp_in_iff, Int32.lt_iff_toInt_lt, Int32.le_iff_toInt_le, ← Int32.toInt_inj, Int32.reduceToInt, n_1, n_2, n_8, Int32.toNatClampNeg, Int64.lt_iff_toInt_lt, Int64.le_iff_toInt_le, ← Int64.toInt_inj, Int64.reduceToInt, Int32.toInt_toInt64, lg_cmp_ge, lg_cmp_le, lg_cmp_gt, lg_cmp_lt, lg_cmp_eq, Bool.false_eq_true, Bool.true_eq_false, reduceCtorEq, false_iff, true_iff, iff_true, iff_false, and_true, true_and, and_false, false_and, reduceIte, ite_true, ite_false, eq_self] at *)) <;> omega) (by assumption)), trivial⟩ rfl
          exact hi20 _ _ _ ⟨Fs17, ((nxq_gi_si hs17 (by decide)).trans (nxq_gi_si hs15 (by decide))), (ar_ni hs17 (by decide) (ar_w hs15 Vs15 As3_135)), (ar_w hs17 Vs17 (ar_ni hs15 (by decide) As3_136)), (ar_ni hs17 (by decide) (ar_ni hs15 (by decide) As3_137)), Ps17_WOK, (by ((try simp only [vp_in_iff, Int32.lt_iff_toInt_lt, Int32.le_iff_toInt_le, ← Int32.toInt_inj, Int32.reduceToInt, n_1, n_2, n_8, Int32.toNatClampNeg, Int64.lt_iff_toInt_lt, Int64.le_iff_toInt_le, ← Int64.toInt_inj, Int64.reduceToInt, Int32.toInt_toInt64, lg_cmp_ge, lg_cmp_le, lg_cmp_gt, lg_cmp_lt, lg_cmp_eq, Bool.false_eq_true, Bool.true_eq_false, reduceCtorEq, false_iff, true_iff, iff_true, iff_false, and_true, true_and, and_false, false_and, reduceIte, ite_true, ite_false, eq_self] at *)) <;> omega), (by ((try simp only [vp_in_iff, Int32.lt_iff_toInt_lt, Int32.le_iff_toInt_le, ← Int32.toInt_inj, Int32.reduceToInt, n_1, n_2, n_8, Int32.toNatClampNeg, Int64.lt_iff_toInt_lt, Int64.le_iff_toInt_le, ← Int64.toInt_inj, Int64.reduceToInt, Int32.toInt_toInt64, lg_cmp_ge, lg_cmp_le, lg_cmp_gt, lg_cmp_lt, lg_cmp_eq, Bool.false_eq_true, Bool.true_eq_false, reduceCtorEq, false_iff, true_iff, iff_true, iff_false, and_true, true_and, and_false, false_and, reduceIte, ite_true, ite_false, eq_self] at *)) <;> omega), (by ((try simp only [vp_in_iff, Int32.lt_iff_toInt_lt, Int32.le_iff_toInt_le, ← Int32.toInt_inj, Int32.reduceToInt, n_1, n_2, n_8, Int32.toNatClampNeg, Int64.lt_iff_toInt_lt, Int64.le_iff_toInt_le, ← Int64.toInt_inj, Int64.reduceToInt, Int32.toInt_toInt64, lg_cmp_ge, lg_cmp_le, lg_cmp_gt, lg_cmp_lt, lg_cmp_eq, Bool.false_eq_true, Bool.true_eq_false, reduceCtorEq, false_iff, true_iff, iff_true, iff_false, and_true, true_and, and_false, false_and, reduceIte, ite_true, ite_false, eq_self] at *)) <;> omega), (by first | exact Es17 | exact put_F hs17 (by assumption) (by ((try simp only [vp_in_iff, Int32.lt_iff_toInt_lt, Int32.le_iff_toInt_le, ← Int32.toInt_inj, Int32.reduceToInt, n_1, n_2, n_8, Int32.toNatClampNeg, Int64.lt_iff_toInt_lt, Int64.le_iff_toInt_le, ← Int64.toInt_inj, Int64.reduceToInt, Int32.toInt_toInt64, lg_cmp_ge, lg_cmp_le, lg_cmp_gt, lg_cmp_lt, lg_cmp_eq, Bool.false_eq_true, Bool.true_eq_false, reduceCtorEq, false_iff, true_iff, iff_true, iff_false, and_true, true_and, and_false, false_and, reduceIte, ite_true, ite_false, eq_self] at *)) <;> omega) (by ((try simp only [vp_in_iff, Int32.lt_iff_toInt_lt, Int32.le_iff_toInt_le, ← Int32.toInt_inj, Int32.reduceToInt, n_1, n_2, n_8, Int32.toNatClampNeg, Int64.lt_iff_toInt_lt, Int64.le_iff_toInt_le, ← Int64.toInt_inj, Int64.reduceToInt, Int32.toInt_toInt64, lg_cmp_ge, lg_cmp_le, lg_cmp_gt, lg_cmp_lt, lg_cmp_eq, Bool.false_eq_true, Bool.true_eq_false, reduceCtorEq, false_iff, true_iff, iff_true, iff_false, and_true, true_and, and_false, false_and, reduceIte, ite_true, ite_false, eq_self] at *)) <;> omega) (by ((try simp only [vp_in_iff, Int32.lt_iff_toInt_lt, Int32.le_iff_toInt_le, ← Int32.toInt_inj, Int32.reduceToInt, n_1, n_2, n_8, Int32.toNatClampNeg, Int64.lt_iff_toInt_lt, Int64.le_iff_toInt_le, ← Int64.toInt_inj, Int64.reduceToInt, Int32.toInt_toInt64, lg_cmp_ge, lg_cmp_le, lg_cmp_gt, lg_cmp_lt, lg_cmp_eq, Bool.false_eq_true, Bool.true_eq_false, reduceCtorEq, false_iff, true_iff, iff_true, iff_false, and_true, true_and, and_false, false_and, reduceIte, ite_true, ite_false, eq_self] at *)) <;> omega) (by assumption)), trivial⟩ rfl
  exact hi5 _ _ _ ⟨Fs1, (ar_nb hs1 A_135), (ar_nb hs1 A_136), (ar_nb hs1 A_137), (WOK_of (fun k => nx_gi_sb hs1) (fun k => nx_gi_sb hs1) P_WOK), (by rw [nx_gi_sb hs1]; first | assumption | (((try simp only [vp_in_iff, Int32.lt_iff_toInt_lt, Int32.le_iff_toInt_le, ← Int32.toInt_inj, Int32.reduceToInt, n_1, n_2, n_8, Int32.toNatClampNeg, Int64.lt_iff_toInt_lt, Int64.le_iff_toInt_le, ← Int64.toInt_inj, Int64.reduceToInt, Int32.toInt_toInt64, lg_cmp_ge, lg_cmp_le, lg_cmp_gt, lg_cmp_lt, lg_cmp_eq, Bool.false_eq_true, Bool.true_eq_false, reduceCtorEq, false_iff, true_iff, iff_true, iff_false, and_true, true_and, and_false, false_and, reduceIte, ite_true, ite_false, eq_self] at *)) <;> omega)), (by rw [nx_gi_sb hs1]; first | assumption | (((try simp only [vp_in_iff, Int32.lt_iff_toInt_lt, Int32.le_iff_toInt_le, ← Int32.toInt_inj, Int32.reduceToInt, n_1, n_2, n_8, Int32.toNatClampNeg, Int64.lt_iff_toInt_lt, Int64.le_iff_toInt_le, ← Int64.toInt_inj, Int64.reduceToInt, Int32.toInt_toInt64, lg_cmp_ge, lg_cmp_le, lg_cmp_gt, lg_cmp_lt, lg_cmp_eq, Bool.false_eq_true, Bool.true_eq_false, reduceCtorEq, false_iff, true_iff, iff_true, iff_false, and_true, true_and, and_false, false_and, reduceIte, ite_true, ite_false, eq_self] at *)) <;> omega)), (by ((try simp only [vp_in_iff, Int32.lt_iff_toInt_lt, Int32.le_iff_toInt_le, ← Int32.toInt_inj, Int32.reduceToInt, n_1, n_2, n_8, Int32.toNatClampNeg, Int64.lt_iff_toInt_lt, Int64.le_iff_toInt_le, ← Int64.toInt_inj, Int64.reduceToInt, Int32.toInt_toInt64, lg_cmp_ge, lg_cmp_le, lg_cmp_gt, lg_cmp_lt, lg_cmp_eq, Bool.false_eq_true, Bool.true_eq_false, reduceCtorEq, false_iff, true_iff, iff_true, iff_false, and_true, true_and, and_false, false_and, reduceIte, ite_true, ite_false, eq_self] at *)) <;> omega), (by ((try simp only [vp_in_iff, Int32.lt_iff_toInt_lt, Int32.le_iff_toInt_le, ← Int32.toInt_inj, Int32.reduceToInt, n_1, n_2, n_8, Int32.toNatClampNeg, Int64.lt_iff_toInt_lt, Int64.le_iff_toInt_le, ← Int64.toInt_inj, Int64.reduceToInt, Int32.toInt_toInt64, lg_cmp_ge, lg_cmp_le, lg_cmp_gt, lg_cmp_lt, lg_cmp_eq, Bool.false_eq_true, Bool.true_eq_false, reduceCtorEq, false_iff, true_iff, iff_true, iff_false, and_true, true_and, and_false, false_and, reduceIte, ite_true, ite_false, eq_self] at *)) <;> omega), (by first | exact inwp_0 hs1 P_INW (by ((try simp only [vp_in_iff, Int32.lt_iff_toInt_lt, Int32.le_iff_toInt_le, ← Int32.toInt_inj, Int32.reduceToInt, n_1, n_2, n_8, Int32.toNatClampNeg, Int64.lt_iff_toInt_lt, Int64.le_iff_toInt_le, ← Int64.toInt_inj, Int64.reduceToInt, Int32.toInt_toInt64, lg_cmp_ge, lg_cmp_le, lg_cmp_gt, lg_cmp_lt, lg_cmp_eq, Bool.false_eq_true, Bool.true_eq_false, reduceCtorEq, false_iff, true_iff, iff_true, iff_false, and_true, true_and, and_false, false_and, reduceIte, ite_true, ite_false, eq_self] at *)) <;> omega) | exact Is1 (by ((try simp only [vp_in_iff, Int32.lt_iff_toInt_lt, Int32.le_iff_toInt_le, ← Int32.toInt_inj, Int32.reduceToInt, n_1, n_2, n_8, Int32.toNatClampNeg, Int64.lt_iff_toInt_lt, Int64.le_iff_toInt_le, ← Int64.toInt_inj, Int64.reduceToInt, Int32.toInt_toInt64, lg_cmp_ge, lg_cmp_le, lg_cmp_gt, lg_cmp_lt, lg_cmp_eq, Bool.false_eq_true, Bool.true_eq_false, reduceCtorEq, false_iff, true_iff, iff_true, iff_false, and_true, true_and, and_false, false_and, reduceIte, ite_true, ite_false, eq_self] at *)) <;> omega) | exact inwp_found ‹INWP s1 _ _› (by assumption) (by first | rfl | exact (nx_gi_sb hs1)) (by ((try simp only [vp_in_iff, Int32.lt_iff_toInt_lt, Int32.le_iff_toInt_le, ← Int32.toInt_inj, Int32.reduceToInt, n_1, n_2, n_8, Int32.toNatClampNeg, Int64.lt_iff_toInt_lt, Int64.le_iff_toInt_le, ← Int64.toInt_inj, Int64.reduceToInt, Int32.toInt_toInt64, lg_cmp_ge, lg_cmp_le, lg_cmp_gt, lg_cmp_lt, lg_cmp_eq, Bool.false_eq_true, Bool.true_eq_false, reduceCtorEq, false_iff, true_iff, iff_true, iff_false, and_true, true_and, and_false, false_and, reduceIte, ite_true, ite_false, eq_self] at *)) <;> omega) (by ((try simp only [vp_in_iff, Int32.lt_iff_toInt_lt, Int32.le_iff_toInt_le, ← Int32.toInt_inj, Int32.reduceToInt, n_1, n_2, n_8, Int32.toNatClampNeg, Int64.lt_iff_toInt_lt, Int64.le_iff_toInt_le, ← Int64.toInt_inj, Int64.reduceToInt, Int32.toInt_toInt64, lg_cmp_ge, lg_cmp_le, lg_cmp_gt, lg_cmp_lt, lg_cmp_eq, Bool.false_eq_true, Bool.true_eq_false, reduceCtorEq, false_iff, true_iff, iff_true, iff_false, and_true, true_and, and_false, false_and, reduceIte, ite_true, ite_false, eq_self] at *)) <;> omega)), trivial⟩ rfl
set_option maxHeartbeats 4000000 in
theorem sp_X12_findWork (G : kG9) {d : Nat} (hd : 1 ≤ d) (σ : St) (r1 : 0 ≤ (gi σ 84 119).toInt ∧ (gi σ 84 119).toInt ≤ 700) (r2 : (gi σ 84 119).toInt ≤ 700) (A_134 : AR ap_134 σ 134) (A_135 : AR ap_135 σ 135) (A_136 : AR ap_136 σ 136) (A_137 : AR ap_137 σ 137) (A_156 : AR ap_156 σ 156) (A_157 : AR ap_157 σ 157) (A_158 : AR ap_158 σ 158) (A_159 : AR ap_159 σ 159) (A_194 : AR ap_194 σ 194) (P_INW : INW σ) (P_NAT : NAT σ) (P_NOK : NOK σ) : Ct G M_X12_findWork d [.ref 84] σ (fun r σ' => Fm [133, 134] [] σ σ' ∧ AR ap_134 σ' 134 ∧ INW σ' ∧ WKS σ' ∧ True) := by
  refine wa_start (by decide) rfl (Nat.le_of_ble_eq_true rfl) (lv := [(0, .ref 84)]) rfl o_X12_findWork_0 rfl ?_
  refine wa_bipush (v := 24) (by decide) ?_
  refine wa_istore_nD (lv' := [(1, .int 24), (0, .ref 84)]) (i := 1) rfl (by decide) rfl ?_
  refine wa_pick [1, 0] rfl ?_
  have hi3 : ∀ (n9_3 : Nat) (l1 : Int32) (s1 : St), ((Fm [133, 134] [] σ s1) ∧ (gi s1 84 119 = gi σ 84 119) ∧ (AR ap_134 s1 134) ∧ (INW s1) ∧ (l1.toInt ≤ 24) ∧ (WKP s1 l1.toInt) ∧ (True)) → (l1.toInt + 1).toNat = n9_3 → WA G M_X12_findWork (ZM G M_X12_findWork d (fun r σ' => Fm [133, 134] [] σ σ' ∧ AR ap_134 σ' 134 ∧ INW σ' ∧ WKS σ' ∧ True)) B_X12_findWork_3 [(0, .ref 84), (1, .int l1)] [] s1 := by
    intro n9_3
    induction n9_3 using Nat.strongRecOn with
    | _ n9_3 ih2 =>
      intro l1 s1 i9 m9_3
      obtain ⟨Fs1, khi3_0, As1_134, Ps1_INW, jhi3_0, jhi3_1, -⟩ := i9
      have ul1 := Int32.toInt_lt l1
      have wl1 := Int32.le_toInt l1
      refine wa_iload_n (i := 1) rfl rfl ?_
      refine wa_if_lt o_X12_findWork_119 (by decide) (fun h4 => ?_) (fun h4 => ?_)
      · have Ps1_WKS := wks_of ‹WKP s1 _› (by ((try simp only [vp_in_iff, Int32.lt_iff_toInt_lt, Int32.le_iff_toInt_le, ← Int32.toInt_inj, Int32.reduceToInt, n_1, n_2, n_8, Int32.toNatClampNeg, Int64.lt_iff_toInt_lt, Int64.le_iff_toInt_le, ← Int64.toInt_inj, Int64.reduceToInt, Int32.toInt_toInt64, lg_cmp_ge, lg_cmp_le, lg_cmp_gt, lg_cmp_lt, lg_cmp_eq, Bool.false_eq_true, Bool.true_eq_false, reduceCtorEq, false_iff, true_iff, iff_true, iff_false, and_true, true_and, and_false, false_and, reduceIte, ite_true, ite_false, eq_self] at *)) <;> omega)
        refine wa_return (st := []) rfl rfl ?_
        exact ⟨Fs1, As1_134, Ps1_INW, Ps1_WKS, trivial⟩
      · refine wa_sipush (v := 250) (by decide) ?_
        refine wa_iload_n (i := 1) rfl rfl ?_
        refine wa_imul ?_
        refine wa_top (fun v5 hv5 => ?_)
        have tv5 := i_mulT hv5
        clear hv5
        refine wa_istore_nD (lv' := [(2, .int v5), (0, .ref 84), (1, .int l1)]) (i := 2) rfl (by decide) rfl ?_
        refine wa_pick [1, 2, 0] rfl ?_
        have hi8 : ∀ (n9_13 : Nat) (l2 : Int32) (s6 : St), ((Fm [133, 134] [] σ s6) ∧ (gi s6 84 119 = gi σ 84 119) ∧ (AR ap_134 s6 134) ∧ (INW s6) ∧ (250 * l1.toInt ≤ l2.toInt) ∧ (WKP s6 l1.toInt) ∧ (True)) → (6500 - l2.toInt).toNat = n9_13 → WA G M_X12_findWork (ZM G M_X12_findWork d (fun r σ' => Fm [133, 134] [] σ σ' ∧ AR ap_134 σ' 134 ∧ INW σ' ∧ WKS σ' ∧ True)) B_X12_findWork_13 [(0, .ref 84), (1, .int l1), (2, .int l2)] [] s6 := by
          intro n9_13
          induction n9_13 using Nat.strongRecOn with
          | _ n9_13 ih7 =>
            intro l2 s6 i9 m9_13
            obtain ⟨Fs6, khi8_0, As6_134, Ps6_INW, jhi8_0, jhi8_1, -⟩ := i9
            have ul2 := Int32.toInt_lt l2
            have wl2 := Int32.le_toInt l2
            refine wa_aload_n (i := 0) rfl rfl ?_
            refine wa_getr ck_12 fl_12_304 ly_84 rf_84_121 ?_
            refine wa_iload_n (i := 1) rfl rfl ?_
            refine wa_zald ly_133 (by ((try simp only [vp_in_iff, Int32.lt_iff_toInt_lt, Int32.le_iff_toInt_le, ← Int32.toInt_inj, Int32.reduceToInt, n_1, n_2, n_8, Int32.toNatClampNeg, Int64.lt_iff_toInt_lt, Int64.le_iff_toInt_le, ← Int64.toInt_inj, Int64.reduceToInt, Int32.toInt_toInt64, lg_cmp_ge, lg_cmp_le, lg_cmp_gt, lg_cmp_lt, lg_cmp_eq, Bool.false_eq_true, Bool.true_eq_false, reduceCtorEq, false_iff, true_iff, iff_true, iff_false, and_true, true_and, and_false, false_and, reduceIte, ite_true, ite_false, eq_self] at *)) <;> omega) ?_
            refine wa_if_eq o_X12_findWork_67 (by decide) (fun h9 => ?_) (fun h9 => ?_)
            · replace h9 := bI_f (b := (gb s6 133 (l1).toNatClampNeg)) (rfl) h9
              refine wa_bipush (v := 24) (by decide) ?_
              refine wa_iload_n (i := 1) rfl rfl ?_
              refine wa_imul ?_
              refine wa_top (fun v10 hv10 => ?_)
              have tv10 := i_mulT hv10
              clear hv10
              refine wa_istore_nD (lv' := [(2, .int v10), (0, .ref 84), (1, .int l1)]) (i := 2) rfl (by decide) rfl ?_
              refine wa_pick [1, 2, 0] rfl ?_
              have hi13 : ∀ (n9_72 : Nat) (l2 : Int32) (s11 : St), ((Fm [133, 134] [] σ s11) ∧ (gi s11 84 119 = gi σ 84 119) ∧ (AR ap_134 s11 134) ∧ (INW s11) ∧ (24 * l1.toInt ≤ l2.toInt) ∧ (WKP s11 l1.toInt) ∧ (WKQ s11 l1.toInt l2.toInt) ∧ (True)) → (2147483647 - l2.toInt).toNat = n9_72 → WA G M_X12_findWork (ZM G M_X12_findWork d (fun r σ' => Fm [133, 134] [] σ σ' ∧ AR ap_134 σ' 134 ∧ INW σ' ∧ WKS σ' ∧ True)) B_X12_findWork_72 [(0, .ref 84), (1, .int l1), (2, .int l2)] [] s11 := by
                intro n9_72
                induction n9_72 using Nat.strongRecOn with
                | _ n9_72 ih12 =>
                  intro l2 s11 i9 m9_72
                  obtain ⟨Fs11, khi13_0, As11_134, Ps11_INW, jhi13_0, jhi13_1, jhi13_2, -⟩ := i9
                  have ul2 := Int32.toInt_lt l2
                  have wl2 := Int32.le_toInt l2
                  refine wa_aload_n (i := 0) rfl rfl ?_
                  refine wa_getr ck_12 fl_12_304 ly_84 rf_84_121 ?_
                  refine wa_iload_n (i := 1) rfl rfl ?_
                  refine wa_zald ly_133 (by ((try simp only [vp_in_iff, Int32.lt_iff_toInt_lt, Int32.le_iff_toInt_le, ← Int32.toInt_inj, Int32.reduceToInt, n_1, n_2, n_8, Int32.toNatClampNeg, Int64.lt_iff_toInt_lt, Int64.le_iff_toInt_le, ← Int64.toInt_inj, Int64.reduceToInt, Int32.toInt_toInt64, lg_cmp_ge, lg_cmp_le, lg_cmp_gt, lg_cmp_lt, lg_cmp_eq, Bool.false_eq_true, Bool.true_eq_false, reduceCtorEq, false_iff, true_iff, iff_true, iff_false, and_true, true_and, and_false, false_and, reduceIte, ite_true, ite_false, eq_self] at *)) <;> omega) ?_
                  refine wa_if_eq o_X12_findWork_113 (by decide) (fun h14 => ?_) (fun h14 => ?_)
                  · replace h14 := bI_f (b := (gb s11 133 (l1).toNatClampNeg)) (rfl) h14
                    refine wa_iinc (v := (-1)) (lv' := fun y15 => [(1, .int y15), (0, .ref 84), (2, .int l2)]) (by decide) rfl (by decide) (fun _ => rfl) (fun y15 hy15 => ?_)
                    have ty15 := i_addT hy15.symm
                    clear hy15
                    refine wa_goto o_X12_findWork_3 (by decide) ?_
                    refine wa_pick [1, 0] rfl ?_
                    exact ih2 _ (by ((try simp only [vp_in_iff, Int32.lt_iff_toInt_lt, Int32.le_iff_toInt_le, ← Int32.toInt_inj, Int32.reduceToInt, n_1, n_2, n_8, Int32.toNatClampNeg, Int64.lt_iff_toInt_lt, Int64.le_iff_toInt_le, ← Int64.toInt_inj, Int64.reduceToInt, Int32.toInt_toInt64, lg_cmp_ge, lg_cmp_le, lg_cmp_gt, lg_cmp_lt, lg_cmp_eq, Bool.false_eq_true, Bool.true_eq_false, reduceCtorEq, false_iff, true_iff, iff_true, iff_false, and_true, true_and, and_false, false_and, reduceIte, ite_true, ite_false, eq_self] at *)) <;> omega) _ _ ⟨Fs11, (khi13_0), As11_134, Ps11_INW, (by ((try simp only [vp_in_iff, Int32.lt_iff_toInt_lt, Int32.le_iff_toInt_le, ← Int32.toInt_inj, Int32.reduceToInt, n_1, n_2, n_8, Int32.toNatClampNeg, Int64.lt_iff_toInt_lt, Int64.le_iff_toInt_le, ← Int64.toInt_inj, Int64.reduceToInt, Int32.toInt_toInt64, lg_cmp_ge, lg_cmp_le, lg_cmp_gt, lg_cmp_lt, lg_cmp_eq, Bool.false_eq_true, Bool.true_eq_false, reduceCtorEq, false_iff, true_iff, iff_true, iff_false, and_true, true_and, and_false, false_and, reduceIte, ite_true, ite_false, eq_self] at *)) <;> omega), (by first | exact wkp_24 (by decide) | exact wkp_no (a := (l1).toNatClampNeg) (by assumption) (by ((try simp only [vp_in_iff, Int32.lt_iff_toInt_lt, Int32.le_iff_toInt_le, ← Int32.toInt_inj, Int32.reduceToInt, n_1, n_2, n_8, Int32.toNatClampNeg, Int64.lt_iff_toInt_lt, Int64.le_iff_toInt_le, ← Int64.toInt_inj, Int64.reduceToInt, Int32.toInt_toInt64, lg_cmp_ge, lg_cmp_le, lg_cmp_gt, lg_cmp_lt, lg_cmp_eq, Bool.false_eq_true, Bool.true_eq_false, reduceCtorEq, false_iff, true_iff, iff_true, iff_false, and_true, true_and, and_false, false_and, reduceIte, ite_true, ite_false, eq_self] at *)) <;> omega) (by ((try simp only [vp_in_iff, Int32.lt_iff_toInt_lt, Int32.le_iff_toInt_le, ← Int32.toInt_inj, Int32.reduceToInt, n_1, n_2, n_8, Int32.toNatClampNeg, Int64.lt_iff_toInt_lt, Int64.le_iff_toInt_le, ← Int64.toInt_inj, Int64.reduceToInt, Int32.toInt_toInt64, lg_cmp_ge, lg_cmp_le, lg_cmp_gt, lg_cmp_lt, lg_cmp_eq, Bool.false_eq_true, Bool.true_eq_false, reduceCtorEq, false_iff, true_iff, iff_true, iff_false, and_true, true_and, and_false, false_and, reduceIte, ite_true, ite_false, eq_self] at *)) <;> omega) (by assumption) | exact wkp_yes (a := (l1).toNatClampNeg) (by assumption) (by assumption) (by ((try simp only [vp_in_iff, Int32.lt_iff_toInt_lt, Int32.le_iff_toInt_le, ← Int32.toInt_inj, Int32.reduceToInt, n_1, n_2, n_8, Int32.toNatClampNeg, Int64.lt_iff_toInt_lt, Int64.le_iff_toInt_le, ← Int64.toInt_inj, Int64.reduceToInt, Int32.toInt_toInt64, lg_cmp_ge, lg_cmp_le, lg_cmp_gt, lg_cmp_lt, lg_cmp_eq, Bool.false_eq_true, Bool.true_eq_false, reduceCtorEq, false_iff, true_iff, iff_true, iff_false, and_true, true_and, and_false, false_and, reduceIte, ite_true, ite_false, eq_self] at *)) <;> omega) (by ((try simp only [vp_in_iff, Int32.lt_iff_toInt_lt, Int32.le_iff_toInt_le, ← Int32.toInt_inj, Int32.reduceToInt, n_1, n_2, n_8, Int32.toNatClampNeg, Int64.lt_iff_toInt_lt, Int64.le_iff_toInt_le, ← Int64.toInt_inj, Int64.reduceToInt, Int32.toInt_toInt64, lg_cmp_ge, lg_cmp_le, lg_cmp_gt, lg_cmp_lt, lg_cmp_eq, Bool.false_eq_true, Bool.true_eq_false, reduceCtorEq, false_iff, true_iff, iff_true, iff_false, and_true, true_and, and_false, false_and, reduceIte, ite_true, ite_false, eq_self] at *)) <;> omega) (by ((try simp only [vp_in_iff, Int32.lt_iff_toInt_lt, Int32.le_iff_toInt_le, ← Int32.toInt_inj, Int32.reduceToInt, n_1, n_2, n_8, Int32.toNatClampNeg, Int64.lt_iff_toInt_lt, Int64.le_iff_toInt_le, ← Int64.toInt_inj, Int64.reduceToInt, Int32.toInt_toInt64, lg_cmp_ge, lg_cmp_le, lg_cmp_gt, lg_cmp_lt, lg_cmp_eq, Bool.false_eq_true, Bool.true_eq_false, reduceCtorEq, false_iff, true_iff, iff_true, iff_false, and_true, true_and, and_false, false_and, reduceIte, ite_true, ite_false, eq_self] at *)) <;> omega)), trivial⟩ rfl
                  · replace h14 := bI_t (b := (gb s11 133 (l1).toNatClampNeg)) (rfl) h14
                    refine wa_iload_n (i := 2) rfl rfl ?_
                    refine wa_bipush (v := 24) (by decide) ?_
                    refine wa_iload_n (i := 1) rfl rfl ?_
                    refine wa_imul ?_
                    refine wa_top (fun v16 hv16 => ?_)
                    have tv16 := i_mulT hv16
                    clear hv16
                    refine wa_aload_n (i := 0) rfl rfl ?_
                    refine wa_getr ck_12 fl_12_235 ly_84 rf_84_89 ?_
                    refine wa_iload_n (i := 1) rfl rfl ?_
                    refine wa_iald ly_156 (by ((try simp only [vp_in_iff, Int32.lt_iff_toInt_lt, Int32.le_iff_toInt_le, ← Int32.toInt_inj, Int32.reduceToInt, n_1, n_2, n_8, Int32.toNatClampNeg, Int64.lt_iff_toInt_lt, Int64.le_iff_toInt_le, ← Int64.toInt_inj, Int64.reduceToInt, Int32.toInt_toInt64, lg_cmp_ge, lg_cmp_le, lg_cmp_gt, lg_cmp_lt, lg_cmp_eq, Bool.false_eq_true, Bool.true_eq_false, reduceCtorEq, false_iff, true_iff, iff_true, iff_false, and_true, true_and, and_false, false_and, reduceIte, ite_true, ite_false, eq_self] at *)) <;> omega) ?_
                    refine wa_top (fun v17 hv17 => ?_)
                    have rv17 : 0 ≤ v17.toInt ∧ v17.toInt ≤ 24 := by rw [← hv17]; exact ar_at (ar_fm Fs11 rfl rfl A_156) _
                    have qv17 := hv17
                    clear hv17
                    refine wa_iadd ?_
                    refine wa_top (fun v18 hv18 => ?_)
                    have tv18 := i_addT hv18
                    clear hv18
                    refine wa_icmp_ge o_X12_findWork_113 (by decide) (fun h19 => ?_) (fun h19 => ?_)
                    · refine wa_iinc (v := (-1)) (lv' := fun y20 => [(1, .int y20), (0, .ref 84), (2, .int l2)]) (by decide) rfl (by decide) (fun _ => rfl) (fun y20 hy20 => ?_)
                      have ty20 := i_addT hy20.symm
                      clear hy20
                      refine wa_goto o_X12_findWork_3 (by decide) ?_
                      refine wa_pick [1, 0] rfl ?_
                      exact ih2 _ (by ((try simp only [vp_in_iff, Int32.lt_iff_toInt_lt, Int32.le_iff_toInt_le, ← Int32.toInt_inj, Int32.reduceToInt, n_1, n_2, n_8, Int32.toNatClampNeg, Int64.lt_iff_toInt_lt, Int64.le_iff_toInt_le, ← Int64.toInt_inj, Int64.reduceToInt, Int32.toInt_toInt64, lg_cmp_ge, lg_cmp_le, lg_cmp_gt, lg_cmp_lt, lg_cmp_eq, Bool.false_eq_true, Bool.true_eq_false, reduceCtorEq, false_iff, true_iff, iff_true, iff_false, and_true, true_and, and_false, false_and, reduceIte, ite_true, ite_false, eq_self] at *)) <;> omega) _ _ ⟨Fs11, (khi13_0), As11_134, Ps11_INW, (by ((try simp only [vp_in_iff, Int32.lt_iff_toInt_lt, Int32.le_iff_toInt_le, ← Int32.toInt_inj, Int32.reduceToInt, n_1, n_2, n_8, Int32.toNatClampNeg, Int64.lt_iff_toInt_lt, Int64.le_iff_toInt_le, ← Int64.toInt_inj, Int64.reduceToInt, Int32.toInt_toInt64, lg_cmp_ge, lg_cmp_le, lg_cmp_gt, lg_cmp_lt, lg_cmp_eq, Bool.false_eq_true, Bool.true_eq_false, reduceCtorEq, false_iff, true_iff, iff_true, iff_false, and_true, true_and, and_false, false_and, reduceIte, ite_true, ite_false, eq_self] at *)) <;> omega), (by first | exact wkp_24 (by decide) | exact wkp_no (a := (l1).toNatClampNeg) (by assumption) (by ((try simp only [vp_in_iff, Int32.lt_iff_toInt_lt, Int32.le_iff_toInt_le, ← Int32.toInt_inj, Int32.reduceToInt, n_1, n_2, n_8, Int32.toNatClampNeg, Int64.lt_iff_toInt_lt, Int64.le_iff_toInt_le, ← Int64.toInt_inj, Int64.reduceToInt, Int32.toInt_toInt64, lg_cmp_ge, lg_cmp_le, lg_cmp_gt, lg_cmp_lt, lg_cmp_eq, Bool.false_eq_true, Bool.true_eq_false, reduceCtorEq, false_iff, true_iff, iff_true, iff_false, and_true, true_and, and_false, false_and, reduceIte, ite_true, ite_false, eq_self] at *)) <;> omega) (by ((try simp only [vp_in_iff, Int32.lt_iff_toInt_lt, Int32.le_iff_toInt_le, ← Int32.toInt_inj, Int32.reduceToInt, n_1, n_2, n_8, Int32.toNatClampNeg, Int64.lt_iff_toInt_lt, Int64.le_iff_toInt_le, ← Int64.toInt_inj, Int64.reduceToInt, Int32.toInt_toInt64, lg_cmp_ge, lg_cmp_le, lg_cmp_gt, lg_cmp_lt, lg_cmp_eq, Bool.false_eq_true, Bool.true_eq_false, reduceCtorEq, false_iff, true_iff, iff_true, iff_false, and_true, true_and, and_false, false_and, reduceIte, ite_true, ite_false, eq_self] at *)) <;> omega) (by assumption) | exact wkp_yes (a := (l1).toNatClampNeg) (by assumption) (by assumption) (by ((try simp only [vp_in_iff, Int32.lt_iff_toInt_lt, Int32.le_iff_toInt_le, ← Int32.toInt_inj, Int32.reduceToInt, n_1, n_2, n_8, Int32.toNatClampNeg, Int64.lt_iff_toInt_lt, Int64.le_iff_toInt_le, ← Int64.toInt_inj, Int64.reduceToInt, Int32.toInt_toInt64, lg_cmp_ge, lg_cmp_le, lg_cmp_gt, lg_cmp_lt, lg_cmp_eq, Bool.false_eq_true, Bool.true_eq_false, reduceCtorEq, false_iff, true_iff, iff_true, iff_false, and_true, true_and, and_false, false_and, reduceIte, ite_true, ite_false, eq_self] at *)) <;> omega) (by ((try simp only [vp_in_iff, Int32.lt_iff_toInt_lt, Int32.le_iff_toInt_le, ← Int32.toInt_inj, Int32.reduceToInt, n_1, n_2, n_8, Int32.toNatClampNeg, Int64.lt_iff_toInt_lt, Int64.le_iff_toInt_le, ← Int64.toInt_inj, Int64.reduceToInt, Int32.toInt_toInt64, lg_cmp_ge, lg_cmp_le, lg_cmp_gt, lg_cmp_lt, lg_cmp_eq, Bool.false_eq_true, Bool.true_eq_false, reduceCtorEq, false_iff, true_iff, iff_true, iff_false, and_true, true_and, and_false, false_and, reduceIte, ite_true, ite_false, eq_self] at *)) <;> omega) (by ((try simp only [vp_in_iff, Int32.lt_iff_toInt_lt, Int32.le_iff_toInt_le, ← Int32.toInt_inj, Int32.reduceToInt, n_1, n_2, n_8, Int32.toNatClampNeg, Int64.lt_iff_toInt_lt, Int64.le_iff_toInt_le, ← Int64.toInt_inj, Int64.reduceToInt, Int32.toInt_toInt64, lg_cmp_ge, lg_cmp_le, lg_cmp_gt, lg_cmp_lt, lg_cmp_eq, Bool.false_eq_true, Bool.true_eq_false, reduceCtorEq, false_iff, true_iff, iff_true, iff_false, and_true, true_and, and_false, false_and, reduceIte, ite_true, ite_false, eq_self] at *)) <;> omega)), trivial⟩ rfl
                    · have mh19 := nle_mx h19
                      refine wa_aload_n (i := 0) rfl rfl ?_
                      refine wa_getr ck_12 fl_12_301 ly_84 rf_84_120 ?_
                      refine wa_iload_n (i := 2) rfl rfl ?_
                      refine wa_aload_n (i := 0) rfl rfl ?_
                      refine wa_iload_n (i := 2) rfl rfl ?_
                      refine wa_Vi (d9 := d - 1) [.int _] [.int l2, .ref 134] (sp_X12_workAt G (d := d - 1) (by omega) s11 _ (by ((try simp only [vp_in_iff, Int32.lt_iff_toInt_lt, Int32.le_iff_toInt_le, ← Int32.toInt_inj, Int32.reduceToInt, n_1, n_2, n_8, Int32.toNatClampNeg, Int64.lt_iff_toInt_lt, Int64.le_iff_toInt_le, ← Int64.toInt_inj, Int64.reduceToInt, Int32.toInt_toInt64, lg_cmp_ge, lg_cmp_le, lg_cmp_gt, lg_cmp_lt, lg_cmp_eq, Bool.false_eq_true, Bool.true_eq_false, reduceCtorEq, false_iff, true_iff, iff_true, iff_false, and_true, true_and, and_false, false_and, reduceIte, ite_true, ite_false, eq_self] at *)) <;> omega) (by rw [khi13_0]; first | assumption | exact Or.inl rfl | exact Or.inr rfl | (((try simp only [vp_in_iff, Int32.lt_iff_toInt_lt, Int32.le_iff_toInt_le, ← Int32.toInt_inj, Int32.reduceToInt, n_1, n_2, n_8, Int32.toNatClampNeg, Int64.lt_iff_toInt_lt, Int64.le_iff_toInt_le, ← Int64.toInt_inj, Int64.reduceToInt, Int32.toInt_toInt64, lg_cmp_ge, lg_cmp_le, lg_cmp_gt, lg_cmp_lt, lg_cmp_eq, Bool.false_eq_true, Bool.true_eq_false, reduceCtorEq, false_iff, true_iff, iff_true, iff_false, and_true, true_and, and_false, false_and, reduceIte, ite_true, ite_false, eq_self] at *)) <;> omega)) (ar_fm Fs11 rfl rfl A_135) (ar_fm Fs11 rfl rfl A_136) (ar_fm Fs11 rfl rfl A_137) (ar_fm Fs11 rfl rfl A_157) (ar_fm Fs11 rfl rfl A_158) (ar_fm Fs11 rfl rfl A_159)) (rfl) rfl rfl (zr (by omega)) mk_X12_workAt ly_84 ml_12_931 (Nat.le_of_ble_eq_true rfl) (fun x22 s21 hs21 => ?_)
                      obtain ⟨zs21, cx22_1, -⟩ := pI hs21
                      rw [khi13_0] at cx22_1
                      subst zs21
                      have v106 := inw_at Ps11_INW (a := (l1).toNatClampNeg) (x := (l2).toNatClampNeg) (by ((try simp only [vp_in_iff, Int32.lt_iff_toInt_lt, Int32.le_iff_toInt_le, ← Int32.toInt_inj, Int32.reduceToInt, n_1, n_2, n_8, Int32.toNatClampNeg, Int64.lt_iff_toInt_lt, Int64.le_iff_toInt_le, ← Int64.toInt_inj, Int64.reduceToInt, Int32.toInt_toInt64, lg_cmp_ge, lg_cmp_le, lg_cmp_gt, lg_cmp_lt, lg_cmp_eq, Bool.false_eq_true, Bool.true_eq_false, reduceCtorEq, false_iff, true_iff, iff_true, iff_false, and_true, true_and, and_false, false_and, reduceIte, ite_true, ite_false, eq_self] at *)) <;> omega) (by assumption) (by ((try simp only [vp_in_iff, Int32.lt_iff_toInt_lt, Int32.le_iff_toInt_le, ← Int32.toInt_inj, Int32.reduceToInt, n_1, n_2, n_8, Int32.toNatClampNeg, Int64.lt_iff_toInt_lt, Int64.le_iff_toInt_le, ← Int64.toInt_inj, Int64.reduceToInt, Int32.toInt_toInt64, lg_cmp_ge, lg_cmp_le, lg_cmp_gt, lg_cmp_lt, lg_cmp_eq, Bool.false_eq_true, Bool.true_eq_false, reduceCtorEq, false_iff, true_iff, iff_true, iff_false, and_true, true_and, and_false, false_and, reduceIte, ite_true, ite_false, eq_self] at *)) <;> omega) (by ((try simp only [vp_in_iff, Int32.lt_iff_toInt_lt, Int32.le_iff_toInt_le, ← Int32.toInt_inj, Int32.reduceToInt, n_1, n_2, n_8, Int32.toNatClampNeg, Int64.lt_iff_toInt_lt, Int64.le_iff_toInt_le, ← Int64.toInt_inj, Int64.reduceToInt, Int32.toInt_toInt64, lg_cmp_ge, lg_cmp_le, lg_cmp_gt, lg_cmp_lt, lg_cmp_eq, Bool.false_eq_true, Bool.true_eq_false, reduceCtorEq, false_iff, true_iff, iff_true, iff_false, and_true, true_and, and_false, false_and, reduceIte, ite_true, ite_false, eq_self] at *)) <;> omega) (by assumption) (by first | rfl | exact (khi13_0))
                      refine wa_iast ly_134 (by ((try simp only [vp_in_iff, Int32.lt_iff_toInt_lt, Int32.le_iff_toInt_le, ← Int32.toInt_inj, Int32.reduceToInt, n_1, n_2, n_8, Int32.toNatClampNeg, Int64.lt_iff_toInt_lt, Int64.le_iff_toInt_le, ← Int64.toInt_inj, Int64.reduceToInt, Int32.toInt_toInt64, lg_cmp_ge, lg_cmp_le, lg_cmp_gt, lg_cmp_lt, lg_cmp_eq, Bool.false_eq_true, Bool.true_eq_false, reduceCtorEq, false_iff, true_iff, iff_true, iff_false, and_true, true_and, and_false, false_and, reduceIte, ite_true, ite_false, eq_self] at *)) <;> omega) (fun s23 hs23 => ?_)
                      have Fs23 : Fm [133, 134] [] σ s23 := by rw [hs23]; exact Fm.si Fs11 rfl
                      have Vs23 : -1 ≤ (x22 : Int32).toInt ∧ (x22 : Int32).toInt ≤ 700 := by ((try simp only [vp_in_iff, Int32.lt_iff_toInt_lt, Int32.le_iff_toInt_le, ← Int32.toInt_inj, Int32.reduceToInt, n_1, n_2, n_8, Int32.toNatClampNeg, Int64.lt_iff_toInt_lt, Int64.le_iff_toInt_le, ← Int64.toInt_inj, Int64.reduceToInt, Int32.toInt_toInt64, lg_cmp_ge, lg_cmp_le, lg_cmp_gt, lg_cmp_lt, lg_cmp_eq, Bool.false_eq_true, Bool.true_eq_false, reduceCtorEq, false_iff, true_iff, iff_true, iff_false, and_true, true_and, and_false, false_and, reduceIte, ite_true, ite_false, eq_self] at *)) <;> omega
                      refine wa_iinc (v := (1)) (lv' := fun y24 => [(2, .int y24), (0, .ref 84), (1, .int l1)]) (by decide) rfl (by decide) (fun _ => rfl) (fun y24 hy24 => ?_)
                      have ty24 := i_addT hy24.symm
                      clear hy24
                      refine wa_goto o_X12_findWork_72 (by decide) ?_
                      refine wa_pick [1, 2, 0] rfl ?_
                      exact ih12 _ (by ((try simp only [vp_in_iff, Int32.lt_iff_toInt_lt, Int32.le_iff_toInt_le, ← Int32.toInt_inj, Int32.reduceToInt, n_1, n_2, n_8, Int32.toNatClampNeg, Int64.lt_iff_toInt_lt, Int64.le_iff_toInt_le, ← Int64.toInt_inj, Int64.reduceToInt, Int32.toInt_toInt64, lg_cmp_ge, lg_cmp_le, lg_cmp_gt, lg_cmp_lt, lg_cmp_eq, Bool.false_eq_true, Bool.true_eq_false, reduceCtorEq, false_iff, true_iff, iff_true, iff_false, and_true, true_and, and_false, false_and, reduceIte, ite_true, ite_false, eq_self] at *)) <;> omega) _ _ ⟨Fs23, ((nxq_gi_si hs23 (by decide)).trans (khi13_0)), (ar_w hs23 Vs23 As11_134), (INW_of (fun k => nx_gb_si hs23) (fun k => nxq_gi_si hs23 (by decide)) (nxq_gi_si hs23 (by decide)) (fun k => nxq_gi_si hs23 (by decide)) (fun k => nxq_gi_si hs23 (by decide)) (fun k => nxq_gi_si hs23 (by decide)) (fun k => nxq_gi_si hs23 (by decide)) (fun k => nxq_gi_si hs23 (by decide)) (fun k => nxq_gi_si hs23 (by decide)) Ps11_INW), (by ((try simp only [vp_in_iff, Int32.lt_iff_toInt_lt, Int32.le_iff_toInt_le, ← Int32.toInt_inj, Int32.reduceToInt, n_1, n_2, n_8, Int32.toNatClampNeg, Int64.lt_iff_toInt_lt, Int64.le_iff_toInt_le, ← Int64.toInt_inj, Int64.reduceToInt, Int32.toInt_toInt64, lg_cmp_ge, lg_cmp_le, lg_cmp_gt, lg_cmp_lt, lg_cmp_eq, Bool.false_eq_true, Bool.true_eq_false, reduceCtorEq, false_iff, true_iff, iff_true, iff_false, and_true, true_and, and_false, false_and, reduceIte, ite_true, ite_false, eq_self] at *)) <;> omega), (by first | assumption | exact wkp_w hs23 (by assumption) (by ((try simp only [vp_in_iff, Int32.lt_iff_toInt_lt, Int32.le_iff_toInt_le, ← Int32.toInt_inj, Int32.reduceToInt, n_1, n_2, n_8, Int32.toNatClampNeg, Int64.lt_iff_toInt_lt, Int64.le_iff_toInt_le, ← Int64.toInt_inj, Int64.reduceToInt, Int32.toInt_toInt64, lg_cmp_ge, lg_cmp_le, lg_cmp_gt, lg_cmp_lt, lg_cmp_eq, Bool.false_eq_true, Bool.true_eq_false, reduceCtorEq, false_iff, true_iff, iff_true, iff_false, and_true, true_and, and_false, false_and, reduceIte, ite_true, ite_false, eq_self] at *)) <;> omega)), (by first | exact wkq_w hs23 (by assumption) (by ((try simp only [vp_in_iff, Int32.lt_iff_toInt_lt, Int32.le_iff_toInt_le, ← Int32.toInt_inj, Int32.reduceToInt, n_1, n_2, n_8, Int32.toNatClampNeg, Int64.lt_iff_toInt_lt, Int64.le_iff_toInt_le, ← Int64.toInt_inj, Int64.reduceToInt, Int32.toInt_toInt64, lg_cmp_ge, lg_cmp_le, lg_cmp_gt, lg_cmp_lt, lg_cmp_eq, Bool.false_eq_true, Bool.true_eq_false, reduceCtorEq, false_iff, true_iff, iff_true, iff_false, and_true, true_and, and_false, false_and, reduceIte, ite_true, ite_false, eq_self] at *)) <;> omega) (by ((try simp only [vp_in_iff, Int32.lt_iff_toInt_lt, Int32.le_iff_toInt_le, ← Int32.toInt_inj, Int32.reduceToInt, n_1, n_2, n_8, Int32.toNatClampNeg, Int64.lt_iff_toInt_lt, Int64.le_iff_toInt_le, ← Int64.toInt_inj, Int64.reduceToInt, Int32.toInt_toInt64, lg_cmp_ge, lg_cmp_le, lg_cmp_gt, lg_cmp_lt, lg_cmp_eq, Bool.false_eq_true, Bool.true_eq_false, reduceCtorEq, false_iff, true_iff, iff_true, iff_false, and_true, true_and, and_false, false_and, reduceIte, ite_true, ite_false, eq_self] at *)) <;> omega) ⟨v106.1, by have e9 := v106.2; first | (rw [(khi13_0)] at e9; ((try simp only [vp_in_iff, Int32.lt_iff_toInt_lt, Int32.le_iff_toInt_le, ← Int32.toInt_inj, Int32.reduceToInt, n_1, n_2, n_8, Int32.toNatClampNeg, Int64.lt_iff_toInt_lt, Int64.le_iff_toInt_le, ← Int64.toInt_inj, Int64.reduceToInt, Int32.toInt_toInt64, lg_cmp_ge, lg_cmp_le, lg_cmp_gt, lg_cmp_lt, lg_cmp_eq, Bool.false_eq_true, Bool.true_eq_false, reduceCtorEq, false_iff, true_iff, iff_true, iff_false, and_true, true_and, and_false, false_and, reduceIte, ite_true, ite_false, eq_self] at *)) <;> omega) | (((try simp only [vp_in_iff, Int32.lt_iff_toInt_lt, Int32.le_iff_toInt_le, ← Int32.toInt_inj, Int32.reduceToInt, n_1, n_2, n_8, Int32.toNatClampNeg, Int64.lt_iff_toInt_lt, Int64.le_iff_toInt_le, ← Int64.toInt_inj, Int64.reduceToInt, Int32.toInt_toInt64, lg_cmp_ge, lg_cmp_le, lg_cmp_gt, lg_cmp_lt, lg_cmp_eq, Bool.false_eq_true, Bool.true_eq_false, reduceCtorEq, false_iff, true_iff, iff_true, iff_false, and_true, true_and, and_false, false_and, reduceIte, ite_true, ite_false, eq_self] at *)) <;> omega)⟩ | exact wkq_0 (by ((try simp only [vp_in_iff, Int32.lt_iff_toInt_lt, Int32.le_iff_toInt_le, ← Int32.toInt_inj, Int32.reduceToInt, n_1, n_2, n_8, Int32.toNatClampNeg, Int64.lt_iff_toInt_lt, Int64.le_iff_toInt_le, ← Int64.toInt_inj, Int64.reduceToInt, Int32.toInt_toInt64, lg_cmp_ge, lg_cmp_le, lg_cmp_gt, lg_cmp_lt, lg_cmp_eq, Bool.false_eq_true, Bool.true_eq_false, reduceCtorEq, false_iff, true_iff, iff_true, iff_false, and_true, true_and, and_false, false_and, reduceIte, ite_true, ite_false, eq_self] at *)) <;> omega)), trivial⟩ rfl
              exact hi13 _ _ _ ⟨Fs6, (khi8_0), As6_134, Ps6_INW, (by ((try simp only [vp_in_iff, Int32.lt_iff_toInt_lt, Int32.le_iff_toInt_le, ← Int32.toInt_inj, Int32.reduceToInt, n_1, n_2, n_8, Int32.toNatClampNeg, Int64.lt_iff_toInt_lt, Int64.le_iff_toInt_le, ← Int64.toInt_inj, Int64.reduceToInt, Int32.toInt_toInt64, lg_cmp_ge, lg_cmp_le, lg_cmp_gt, lg_cmp_lt, lg_cmp_eq, Bool.false_eq_true, Bool.true_eq_false, reduceCtorEq, false_iff, true_iff, iff_true, iff_false, and_true, true_and, and_false, false_and, reduceIte, ite_true, ite_false, eq_self] at *)) <;> omega), (by first | assumption | exact wkp_w hs6 (by assumption) (by ((try simp only [vp_in_iff, Int32.lt_iff_toInt_lt, Int32.le_iff_toInt_le, ← Int32.toInt_inj, Int32.reduceToInt, n_1, n_2, n_8, Int32.toNatClampNeg, Int64.lt_iff_toInt_lt, Int64.le_iff_toInt_le, ← Int64.toInt_inj, Int64.reduceToInt, Int32.toInt_toInt64, lg_cmp_ge, lg_cmp_le, lg_cmp_gt, lg_cmp_lt, lg_cmp_eq, Bool.false_eq_true, Bool.true_eq_false, reduceCtorEq, false_iff, true_iff, iff_true, iff_false, and_true, true_and, and_false, false_and, reduceIte, ite_true, ite_false, eq_self] at *)) <;> omega)), (by first | exact wkq_w hs6 (by assumption) (by ((try simp only [vp_in_iff, Int32.lt_iff_toInt_lt, Int32.le_iff_toInt_le, ← Int32.toInt_inj, Int32.reduceToInt, n_1, n_2, n_8, Int32.toNatClampNeg, Int64.lt_iff_toInt_lt, Int64.le_iff_toInt_le, ← Int64.toInt_inj, Int64.reduceToInt, Int32.toInt_toInt64, lg_cmp_ge, lg_cmp_le, lg_cmp_gt, lg_cmp_lt, lg_cmp_eq, Bool.false_eq_true, Bool.true_eq_false, reduceCtorEq, false_iff, true_iff, iff_true, iff_false, and_true, true_and, and_false, false_and, reduceIte, ite_true, ite_false, eq_self] at *)) <;> omega) (by ((try simp only [vp_in_iff, Int32.lt_iff_toInt_lt, Int32.le_iff_toInt_le, ← Int32.toInt_inj, Int32.reduceToInt, n_1, n_2, n_8, Int32.toNatClampNeg, Int64.lt_iff_toInt_lt, Int64.le_iff_toInt_le, ← Int64.toInt_inj, Int64.reduceToInt, Int32.toInt_toInt64, lg_cmp_ge, lg_cmp_le, lg_cmp_gt, lg_cmp_lt, lg_cmp_eq, Bool.false_eq_true, Bool.true_eq_false, reduceCtorEq, false_iff, true_iff, iff_true, iff_false, and_true, true_and, and_false, false_and, reduceIte, ite_true, ite_false, eq_self] at *)) <;> omega) ⟨v106.1, by have e9 := v106.2; first | (rw [(khi3_0)] at e9; ((try simp only [vp_in_iff, Int32.lt_iff_toInt_lt, Int32.le_iff_toInt_le, ← Int32.toInt_inj, Int32.reduceToInt, n_1, n_2, n_8, Int32.toNatClampNeg, Int64.lt_iff_toInt_lt, Int64.le_iff_toInt_le, ← Int64.toInt_inj, Int64.reduceToInt, Int32.toInt_toInt64, lg_cmp_ge, lg_cmp_le, lg_cmp_gt, lg_cmp_lt, lg_cmp_eq, Bool.false_eq_true, Bool.true_eq_false, reduceCtorEq, false_iff, true_iff, iff_true, iff_false, and_true, true_and, and_false, false_and, reduceIte, ite_true, ite_false, eq_self] at *)) <;> omega) | (((try simp only [vp_in_iff, Int32.lt_iff_toInt_lt, Int32.le_iff_toInt_le, ← Int32.toInt_inj, Int32.reduceToInt, n_1, n_2, n_8, Int32.toNatClampNeg, Int64.lt_iff_toInt_lt, Int64.le_iff_toInt_le, ← Int64.toInt_inj, Int64.reduceToInt, Int32.toInt_toInt64, lg_cmp_ge, lg_cmp_le, lg_cmp_gt, lg_cmp_lt, lg_cmp_eq, Bool.false_eq_true, Bool.true_eq_false, reduceCtorEq, false_iff, true_iff, iff_true, iff_false, and_true, true_and, and_false, false_and, reduceIte, ite_true, ite_false, eq_self] at *)) <;> omega)⟩ | exact wkq_0 (by ((try simp only [vp_in_iff, Int32.lt_iff_toInt_lt, Int32.le_iff_toInt_le, ← Int32.toInt_inj, Int32.reduceToInt, n_1, n_2, n_8, Int32.toNatClampNeg, Int64.lt_iff_toInt_lt, Int64.le_iff_toInt_le, ← Int64.toInt_inj, Int64.reduceToInt, Int32.toInt_toInt64, lg_cmp_ge, lg_cmp_le, lg_cmp_gt, lg_cmp_lt, lg_cmp_eq, Bool.false_eq_true, Bool.true_eq_false, reduceCtorEq, false_iff, true_iff, iff_true, iff_false, and_true, true_and, and_false, false_and, reduceIte, ite_true, ite_false, eq_self] at *)) <;> omega)), trivial⟩ rfl
            · replace h9 := bI_t (b := (gb s6 133 (l1).toNatClampNeg)) (rfl) h9
              refine wa_iload_n (i := 2) rfl rfl ?_
              refine wa_sipush (v := 250) (by decide) ?_
              refine wa_iload_n (i := 1) rfl rfl ?_
              refine wa_imul ?_
              refine wa_top (fun v25 hv25 => ?_)
              have tv25 := i_mulT hv25
              clear hv25
              refine wa_aload_n (i := 0) rfl rfl ?_
              refine wa_getr ck_12 fl_12_120 ly_84 rf_84_45 ?_
              refine wa_iload_n (i := 1) rfl rfl ?_
              refine wa_iald ly_194 (by ((try simp only [vp_in_iff, Int32.lt_iff_toInt_lt, Int32.le_iff_toInt_le, ← Int32.toInt_inj, Int32.reduceToInt, n_1, n_2, n_8, Int32.toNatClampNeg, Int64.lt_iff_toInt_lt, Int64.le_iff_toInt_le, ← Int64.toInt_inj, Int64.reduceToInt, Int32.toInt_toInt64, lg_cmp_ge, lg_cmp_le, lg_cmp_gt, lg_cmp_lt, lg_cmp_eq, Bool.false_eq_true, Bool.true_eq_false, reduceCtorEq, false_iff, true_iff, iff_true, iff_false, and_true, true_and, and_false, false_and, reduceIte, ite_true, ite_false, eq_self] at *)) <;> omega) ?_
              refine wa_top (fun v26 hv26 => ?_)
              have rv26 : 0 ≤ v26.toInt ∧ v26.toInt ≤ 250 := by rw [← hv26]; exact ar_at (ar_fm Fs6 rfl rfl A_194) _
              have qv26 := hv26
              clear hv26
              refine wa_iadd ?_
              refine wa_top (fun v27 hv27 => ?_)
              have tv27 := i_addT hv27
              clear hv27
              refine wa_icmp_ge o_X12_findWork_67 (by decide) (fun h28 => ?_) (fun h28 => ?_)
              · refine wa_bipush (v := 24) (by decide) ?_
                refine wa_iload_n (i := 1) rfl rfl ?_
                refine wa_imul ?_
                refine wa_top (fun v29 hv29 => ?_)
                have tv29 := i_mulT hv29
                clear hv29
                refine wa_istore_nD (lv' := [(2, .int v29), (0, .ref 84), (1, .int l1)]) (i := 2) rfl (by decide) rfl ?_
                refine wa_pick [1, 2, 0] rfl ?_
                have hi32 : ∀ (n9_72 : Nat) (l2 : Int32) (s30 : St), ((Fm [133, 134] [] σ s30) ∧ (gi s30 84 119 = gi σ 84 119) ∧ (AR ap_134 s30 134) ∧ (INW s30) ∧ (24 * l1.toInt ≤ l2.toInt) ∧ (WKP s30 l1.toInt) ∧ (WKQ s30 l1.toInt l2.toInt) ∧ (True)) → (2147483647 - l2.toInt).toNat = n9_72 → WA G M_X12_findWork (ZM G M_X12_findWork d (fun r σ' => Fm [133, 134] [] σ σ' ∧ AR ap_134 σ' 134 ∧ INW σ' ∧ WKS σ' ∧ True)) B_X12_findWork_72 [(0, .ref 84), (1, .int l1), (2, .int l2)] [] s30 := by
                  intro n9_72
                  induction n9_72 using Nat.strongRecOn with
                  | _ n9_72 ih31 =>
                    intro l2 s30 i9 m9_72
                    obtain ⟨Fs30, khi32_0, As30_134, Ps30_INW, jhi32_0, jhi32_1, jhi32_2, -⟩ := i9
                    have ul2 := Int32.toInt_lt l2
                    have wl2 := Int32.le_toInt l2
                    refine wa_aload_n (i := 0) rfl rfl ?_
                    refine wa_getr ck_12 fl_12_304 ly_84 rf_84_121 ?_
                    refine wa_iload_n (i := 1) rfl rfl ?_
                    refine wa_zald ly_133 (by ((try simp only [vp_in_iff, Int32.lt_iff_toInt_lt, Int32.le_iff_toInt_le, ← Int32.toInt_inj, Int32.reduceToInt, n_1, n_2, n_8, Int32.toNatClampNeg, Int64.lt_iff_toInt_lt, Int64.le_iff_toInt_le, ← Int64.toInt_inj, Int64.reduceToInt, Int32.toInt_toInt64, lg_cmp_ge, lg_cmp_le, lg_cmp_gt, lg_cmp_lt, lg_cmp_eq, Bool.false_eq_true, Bool.true_eq_false, reduceCtorEq, false_iff, true_iff, iff_true, iff_false, and_true, true_and, and_false, false_and, reduceIte, ite_true, ite_false, eq_self] at *)) <;> omega) ?_
                    refine wa_if_eq o_X12_findWork_113 (by decide) (fun h33 => ?_) (fun h33 => ?_)
                    · replace h33 := bI_f (b := (gb s30 133 (l1).toNatClampNeg)) (rfl) h33
                      refine wa_iinc (v := (-1)) (lv' := fun y34 => [(1, .int y34), (0, .ref 84), (2, .int l2)]) (by decide) rfl (by decide) (fun _ => rfl) (fun y34 hy34 => ?_)
                      have ty34 := i_addT hy34.symm
                      clear hy34
                      refine wa_goto o_X12_findWork_3 (by decide) ?_
                      refine wa_pick [1, 0] rfl ?_
                      exact ih2 _ (by ((try simp only [vp_in_iff, Int32.lt_iff_toInt_lt, Int32.le_iff_toInt_le, ← Int32.toInt_inj, Int32.reduceToInt, n_1, n_2, n_8, Int32.toNatClampNeg, Int64.lt_iff_toInt_lt, Int64.le_iff_toInt_le, ← Int64.toInt_inj, Int64.reduceToInt, Int32.toInt_toInt64, lg_cmp_ge, lg_cmp_le, lg_cmp_gt, lg_cmp_lt, lg_cmp_eq, Bool.false_eq_true, Bool.true_eq_false, reduceCtorEq, false_iff, true_iff, iff_true, iff_false, and_true, true_and, and_false, false_and, reduceIte, ite_true, ite_false, eq_self] at *)) <;> omega) _ _ ⟨Fs30, (khi32_0), As30_134, Ps30_INW, (by ((try simp only [vp_in_iff, Int32.lt_iff_toInt_lt, Int32.le_iff_toInt_le, ← Int32.toInt_inj, Int32.reduceToInt, n_1, n_2, n_8, Int32.toNatClampNeg, Int64.lt_iff_toInt_lt, Int64.le_iff_toInt_le, ← Int64.toInt_inj, Int64.reduceToInt, Int32.toInt_toInt64, lg_cmp_ge, lg_cmp_le, lg_cmp_gt, lg_cmp_lt, lg_cmp_eq, Bool.false_eq_true, Bool.true_eq_false, reduceCtorEq, false_iff, true_iff, iff_true, iff_false, and_true, true_and, and_false, false_and, reduceIte, ite_true, ite_false, eq_self] at *)) <;> omega), (by first | exact wkp_24 (by decide) | exact wkp_no (a := (l1).toNatClampNeg) (by assumption) (by ((try simp only [vp_in_iff, Int32.lt_iff_toInt_lt, Int32.le_iff_toInt_le, ← Int32.toInt_inj, Int32.reduceToInt, n_1, n_2, n_8, Int32.toNatClampNeg, Int64.lt_iff_toInt_lt, Int64.le_iff_toInt_le, ← Int64.toInt_inj, Int64.reduceToInt, Int32.toInt_toInt64, lg_cmp_ge, lg_cmp_le, lg_cmp_gt, lg_cmp_lt, lg_cmp_eq, Bool.false_eq_true, Bool.true_eq_false, reduceCtorEq, false_iff, true_iff, iff_true, iff_false, and_true, true_and, and_false, false_and, reduceIte, ite_true, ite_false, eq_self] at *)) <;> omega) (by ((try simp only [vp_in_iff, Int32.lt_iff_toInt_lt, Int32.le_iff_toInt_le, ← Int32.toInt_inj, Int32.reduceToInt, n_1, n_2, n_8, Int32.toNatClampNeg, Int64.lt_iff_toInt_lt, Int64.le_iff_toInt_le, ← Int64.toInt_inj, Int64.reduceToInt, Int32.toInt_toInt64, lg_cmp_ge, lg_cmp_le, lg_cmp_gt, lg_cmp_lt, lg_cmp_eq, Bool.false_eq_true, Bool.true_eq_false, reduceCtorEq, false_iff, true_iff, iff_true, iff_false, and_true, true_and, and_false, false_and, reduceIte, ite_true, ite_false, eq_self] at *)) <;> omega) (by assumption) | exact wkp_yes (a := (l1).toNatClampNeg) (by assumption) (by assumption) (by ((try simp only [vp_in_iff, Int32.lt_iff_toInt_lt, Int32.le_iff_toInt_le, ← Int32.toInt_inj, Int32.reduceToInt, n_1, n_2, n_8, Int32.toNatClampNeg, Int64.lt_iff_toInt_lt, Int64.le_iff_toInt_le, ← Int64.toInt_inj, Int64.reduceToInt, Int32.toInt_toInt64, lg_cmp_ge, lg_cmp_le, lg_cmp_gt, lg_cmp_lt, lg_cmp_eq, Bool.false_eq_true, Bool.true_eq_false, reduceCtorEq, false_iff, true_iff, iff_true, iff_false, and_true, true_and, and_false, false_and, reduceIte, ite_true, ite_false, eq_self] at *)) <;> omega) (by ((try simp only [vp_in_iff, Int32.lt_iff_toInt_lt, Int32.le_iff_toInt_le, ← Int32.toInt_inj, Int32.reduceToInt, n_1, n_2, n_8, Int32.toNatClampNeg, Int64.lt_iff_toInt_lt, Int64.le_iff_toInt_le, ← Int64.toInt_inj, Int64.reduceToInt, Int32.toInt_toInt64, lg_cmp_ge, lg_cmp_le, lg_cmp_gt, lg_cmp_lt, lg_cmp_eq, Bool.false_eq_true, Bool.true_eq_false, reduceCtorEq, false_iff, true_iff, iff_true, iff_false, and_true, true_and, and_false, false_and, reduceIte, ite_true, ite_false, eq_self] at *)) <;> omega) (by ((try simp only [vp_in_iff, Int32.lt_iff_toInt_lt, Int32.le_iff_toInt_le, ← Int32.toInt_inj, Int32.reduceToInt, n_1, n_2, n_8, Int32.toNatClampNeg, Int64.lt_iff_toInt_lt, Int64.le_iff_toInt_le, ← Int64.toInt_inj, Int64.reduceToInt, Int32.toInt_toInt64, lg_cmp_ge, lg_cmp_le, lg_cmp_gt, lg_cmp_lt, lg_cmp_eq, Bool.false_eq_true, Bool.true_eq_false, reduceCtorEq, false_iff, true_iff, iff_true, iff_false, and_true, true_and, and_false, false_and, reduceIte, ite_true, ite_false, eq_self] at *)) <;> omega)), trivial⟩ rfl
                    · replace h33 := bI_t (b := (gb s30 133 (l1).toNatClampNeg)) (rfl) h33
                      refine wa_iload_n (i := 2) rfl rfl ?_
                      refine wa_bipush (v := 24) (by decide) ?_
                      refine wa_iload_n (i := 1) rfl rfl ?_
                      refine wa_imul ?_
                      refine wa_top (fun v35 hv35 => ?_)
                      have tv35 := i_mulT hv35
                      clear hv35
                      refine wa_aload_n (i := 0) rfl rfl ?_
                      refine wa_getr ck_12 fl_12_235 ly_84 rf_84_89 ?_
                      refine wa_iload_n (i := 1) rfl rfl ?_
                      refine wa_iald ly_156 (by ((try simp only [vp_in_iff, Int32.lt_iff_toInt_lt, Int32.le_iff_toInt_le, ← Int32.toInt_inj, Int32.reduceToInt, n_1, n_2, n_8, Int32.toNatClampNeg, Int64.lt_iff_toInt_lt, Int64.le_iff_toInt_le, ← Int64.toInt_inj, Int64.reduceToInt, Int32.toInt_toInt64, lg_cmp_ge, lg_cmp_le, lg_cmp_gt, lg_cmp_lt, lg_cmp_eq, Bool.false_eq_true, Bool.true_eq_false, reduceCtorEq, false_iff, true_iff, iff_true, iff_false, and_true, true_and, and_false, false_and, reduceIte, ite_true, ite_false, eq_self] at *)) <;> omega) ?_
                      refine wa_top (fun v36 hv36 => ?_)
                      have rv36 : 0 ≤ v36.toInt ∧ v36.toInt ≤ 24 := by rw [← hv36]; exact ar_at (ar_fm Fs30 rfl rfl A_156) _
                      have qv36 := hv36
                      clear hv36
                      refine wa_iadd ?_
                      refine wa_top (fun v37 hv37 => ?_)
                      have tv37 := i_addT hv37
                      clear hv37
                      refine wa_icmp_ge o_X12_findWork_113 (by decide) (fun h38 => ?_) (fun h38 => ?_)
                      · refine wa_iinc (v := (-1)) (lv' := fun y39 => [(1, .int y39), (0, .ref 84), (2, .int l2)]) (by decide) rfl (by decide) (fun _ => rfl) (fun y39 hy39 => ?_)
                        have ty39 := i_addT hy39.symm
                        clear hy39
                        refine wa_goto o_X12_findWork_3 (by decide) ?_
                        refine wa_pick [1, 0] rfl ?_
                        exact ih2 _ (by ((try simp only [vp_in_iff, Int32.lt_iff_toInt_lt, Int32.le_iff_toInt_le, ← Int32.toInt_inj, Int32.reduceToInt, n_1, n_2, n_8, Int32.toNatClampNeg, Int64.lt_iff_toInt_lt, Int64.le_iff_toInt_le, ← Int64.toInt_inj, Int64.reduceToInt, Int32.toInt_toInt64, lg_cmp_ge, lg_cmp_le, lg_cmp_gt, lg_cmp_lt, lg_cmp_eq, Bool.false_eq_true, Bool.true_eq_false, reduceCtorEq, false_iff, true_iff, iff_true, iff_false, and_true, true_and, and_false, false_and, reduceIte, ite_true, ite_false, eq_self] at *)) <;> omega) _ _ ⟨Fs30, (khi32_0), As30_134, Ps30_INW, (by ((try simp only [vp_in_iff, Int32.lt_iff_toInt_lt, Int32.le_iff_toInt_le, ← Int32.toInt_inj, Int32.reduceToInt, n_1, n_2, n_8, Int32.toNatClampNeg, Int64.lt_iff_toInt_lt, Int64.le_iff_toInt_le, ← Int64.toInt_inj, Int64.reduceToInt, Int32.toInt_toInt64, lg_cmp_ge, lg_cmp_le, lg_cmp_gt, lg_cmp_lt, lg_cmp_eq, Bool.false_eq_true, Bool.true_eq_false, reduceCtorEq, false_iff, true_iff, iff_true, iff_false, and_true, true_and, and_false, false_and, reduceIte, ite_true, ite_false, eq_self] at *)) <;> omega), (by first | exact wkp_24 (by decide) | exact wkp_no (a := (l1).toNatClampNeg) (by assumption) (by ((try simp only [vp_in_iff, Int32.lt_iff_toInt_lt, Int32.le_iff_toInt_le, ← Int32.toInt_inj, Int32.reduceToInt, n_1, n_2, n_8, Int32.toNatClampNeg, Int64.lt_iff_toInt_lt, Int64.le_iff_toInt_le, ← Int64.toInt_inj, Int64.reduceToInt, Int32.toInt_toInt64, lg_cmp_ge, lg_cmp_le, lg_cmp_gt, lg_cmp_lt, lg_cmp_eq, Bool.false_eq_true, Bool.true_eq_false, reduceCtorEq, false_iff, true_iff, iff_true, iff_false, and_true, true_and, and_false, false_and, reduceIte, ite_true, ite_false, eq_self] at *)) <;> omega) (by ((try simp only [vp_in_iff, Int32.lt_iff_toInt_lt, Int32.le_iff_toInt_le, ← Int32.toInt_inj, Int32.reduceToInt, n_1, n_2, n_8, Int32.toNatClampNeg, Int64.lt_iff_toInt_lt, Int64.le_iff_toInt_le, ← Int64.toInt_inj, Int64.reduceToInt, Int32.toInt_toInt64, lg_cmp_ge, lg_cmp_le, lg_cmp_gt, lg_cmp_lt, lg_cmp_eq, Bool.false_eq_true, Bool.true_eq_false, reduceCtorEq, false_iff, true_iff, iff_true, iff_false, and_true, true_and, and_false, false_and, reduceIte, ite_true, ite_false, eq_self] at *)) <;> omega) (by assumption) | exact wkp_yes (a := (l1).toNatClampNeg) (by assumption) (by assumption) (by ((try simp only [vp_in_iff, Int32.lt_iff_toInt_lt, Int32.le_iff_toInt_le, ← Int32.toInt_inj, Int32.reduceToInt, n_1, n_2, n_8, Int32.toNatClampNeg, Int64.lt_iff_toInt_lt, Int64.le_iff_toInt_le, ← Int64.toInt_inj, Int64.reduceToInt, Int32.toInt_toInt64, lg_cmp_ge, lg_cmp_le, lg_cmp_gt, lg_cmp_lt, lg_cmp_eq, Bool.false_eq_true, Bool.true_eq_false, reduceCtorEq, false_iff, true_iff, iff_true, iff_false, and_true, true_and, and_false, false_and, reduceIte, ite_true, ite_false, eq_self] at *)) <;> omega) (by ((try simp only [vp_in_iff, Int32.lt_iff_toInt_lt, Int32.le_iff_toInt_le, ← Int32.toInt_inj, Int32.reduceToInt, n_1, n_2, n_8, Int32.toNatClampNeg, Int64.lt_iff_toInt_lt, Int64.le_iff_toInt_le, ← Int64.toInt_inj, Int64.reduceToInt, Int32.toInt_toInt64, lg_cmp_ge, lg_cmp_le, lg_cmp_gt, lg_cmp_lt, lg_cmp_eq, Bool.false_eq_true, Bool.true_eq_false, reduceCtorEq, false_iff, true_iff, iff_true, iff_false, and_true, true_and, and_false, false_and, reduceIte, ite_true, ite_false, eq_self] at *)) <;> omega) (by ((try simp only [vp_in_iff, Int32.lt_iff_toInt_lt, Int32.le_iff_toInt_le, ← Int32.toInt_inj, Int32.reduceToInt, n_1, n_2, n_8, Int32.toNatClampNeg, Int64.lt_iff_toInt_lt, Int64.le_iff_toInt_le, ← Int64.toInt_inj, Int64.reduceToInt, Int32.toInt_toInt64, lg_cmp_ge, lg_cmp_le, lg_cmp_gt, lg_cmp_lt, lg_cmp_eq, Bool.false_eq_true, Bool.true_eq_false, reduceCtorEq, false_iff, true_iff, iff_true, iff_false, and_true, true_and, and_false, false_and, reduceIte, ite_true, ite_false, eq_self] at *)) <;> omega)), trivial⟩ rfl
                      · have mh38 := nle_mx h38
                        refine wa_aload_n (i := 0) rfl rfl ?_
                        refine wa_getr ck_12 fl_12_301 ly_84 rf_84_120 ?_
                        refine wa_iload_n (i := 2) rfl rfl ?_
                        refine wa_aload_n (i := 0) rfl rfl ?_
                        refine wa_iload_n (i := 2) rfl rfl ?_
                        refine wa_Vi (d9 := d - 1) [.int _] [.int l2, .ref 134] (sp_X12_workAt G (d := d - 1) (by omega) s30 _ (by ((try simp only [vp_in_iff, Int32.lt_iff_toInt_lt, Int32.le_iff_toInt_le, ← Int32.toInt_inj, Int32.reduceToInt, n_1, n_2, n_8, Int32.toNatClampNeg, Int64.lt_iff_toInt_lt, Int64.le_iff_toInt_le, ← Int64.toInt_inj, Int64.reduceToInt, Int32.toInt_toInt64, lg_cmp_ge, lg_cmp_le, lg_cmp_gt, lg_cmp_lt, lg_cmp_eq, Bool.false_eq_true, Bool.true_eq_false, reduceCtorEq, false_iff, true_iff, iff_true, iff_false, and_true, true_and, and_false, false_and, reduceIte, ite_true, ite_false, eq_self] at *)) <;> omega) (by rw [khi32_0]; first | assumption | exact Or.inl rfl | exact Or.inr rfl | (((try simp only [vp_in_iff, Int32.lt_iff_toInt_lt, Int32.le_iff_toInt_le, ← Int32.toInt_inj, Int32.reduceToInt, n_1, n_2, n_8, Int32.toNatClampNeg, Int64.lt_iff_toInt_lt, Int64.le_iff_toInt_le, ← Int64.toInt_inj, Int64.reduceToInt, Int32.toInt_toInt64, lg_cmp_ge, lg_cmp_le, lg_cmp_gt, lg_cmp_lt, lg_cmp_eq, Bool.false_eq_true, Bool.true_eq_false, reduceCtorEq, false_iff, true_iff, iff_true, iff_false, and_true, true_and, and_false, false_and, reduceIte, ite_true, ite_false, eq_self] at *)) <;> omega)) (ar_fm Fs30 rfl rfl A_135) (ar_fm Fs30 rfl rfl A_136) (ar_fm Fs30 rfl rfl A_137) (ar_fm Fs30 rfl rfl A_157) (ar_fm Fs30 rfl rfl A_158) (ar_fm Fs30 rfl rfl A_159)) (rfl) rfl rfl (zr (by omega)) mk_X12_workAt ly_84 ml_12_931 (Nat.le_of_ble_eq_true rfl) (fun x41 s40 hs40 => ?_)
                        obtain ⟨zs40, cx41_1, -⟩ := pI hs40
                        rw [khi32_0] at cx41_1
                        subst zs40
                        have v106 := inw_at Ps30_INW (a := (l1).toNatClampNeg) (x := (l2).toNatClampNeg) (by ((try simp only [vp_in_iff, Int32.lt_iff_toInt_lt, Int32.le_iff_toInt_le, ← Int32.toInt_inj, Int32.reduceToInt, n_1, n_2, n_8, Int32.toNatClampNeg, Int64.lt_iff_toInt_lt, Int64.le_iff_toInt_le, ← Int64.toInt_inj, Int64.reduceToInt, Int32.toInt_toInt64, lg_cmp_ge, lg_cmp_le, lg_cmp_gt, lg_cmp_lt, lg_cmp_eq, Bool.false_eq_true, Bool.true_eq_false, reduceCtorEq, false_iff, true_iff, iff_true, iff_false, and_true, true_and, and_false, false_and, reduceIte, ite_true, ite_false, eq_self] at *)) <;> omega) (by assumption) (by ((try simp only [vp_in_iff, Int32.lt_iff_toInt_lt, Int32.le_iff_toInt_le, ← Int32.toInt_inj, Int32.reduceToInt, n_1, n_2, n_8, Int32.toNatClampNeg, Int64.lt_iff_toInt_lt, Int64.le_iff_toInt_le, ← Int64.toInt_inj, Int64.reduceToInt, Int32.toInt_toInt64, lg_cmp_ge, lg_cmp_le, lg_cmp_gt, lg_cmp_lt, lg_cmp_eq, Bool.false_eq_true, Bool.true_eq_false, reduceCtorEq, false_iff, true_iff, iff_true, iff_false, and_true, true_and, and_false, false_and, reduceIte, ite_true, ite_false, eq_self] at *)) <;> omega) (by ((try simp only [vp_in_iff, Int32.lt_iff_toInt_lt, Int32.le_iff_toInt_le, ← Int32.toInt_inj, Int32.reduceToInt, n_1, n_2, n_8, Int32.toNatClampNeg, Int64.lt_iff_toInt_lt, Int64.le_iff_toInt_le, ← Int64.toInt_inj, Int64.reduceToInt, Int32.toInt_toInt64, lg_cmp_ge, lg_cmp_le, lg_cmp_gt, lg_cmp_lt, lg_cmp_eq, Bool.false_eq_true, Bool.true_eq_false, reduceCtorEq, false_iff, true_iff, iff_true, iff_false, and_true, true_and, and_false, false_and, reduceIte, ite_true, ite_false, eq_self] at *)) <;> omega) (by assumption) (by first | rfl | exact (khi32_0))
                        refine wa_iast ly_134 (by ((try simp only [vp_in_iff, Int32.lt_iff_toInt_lt, Int32.le_iff_toInt_le, ← Int32.toInt_inj, Int32.reduceToInt, n_1, n_2, n_8, Int32.toNatClampNeg, Int64.lt_iff_toInt_lt, Int64.le_iff_toInt_le, ← Int64.toInt_inj, Int64.reduceToInt, Int32.toInt_toInt64, lg_cmp_ge, lg_cmp_le, lg_cmp_gt, lg_cmp_lt, lg_cmp_eq, Bool.false_eq_true, Bool.true_eq_false, reduceCtorEq, false_iff, true_iff, iff_true, iff_false, and_true, true_and, and_false, false_and, reduceIte, ite_true, ite_false, eq_self] at *)) <;> omega) (fun s42 hs42 => ?_)
                        have Fs42 : Fm [133, 134] [] σ s42 := by rw [hs42]; exact Fm.si Fs30 rfl
                        have Vs42 : -1 ≤ (x41 : Int32).toInt ∧ (x41 : Int32).toInt ≤ 700 := by ((try simp only [vp_in_iff, Int32.lt_iff_toInt_lt, Int32.le_iff_toInt_le, ← Int32.toInt_inj, Int32.reduceToInt, n_1, n_2, n_8, Int32.toNatClampNeg, Int64.lt_iff_toInt_lt, Int64.le_iff_toInt_le, ← Int64.toInt_inj, Int64.reduceToInt, Int32.toInt_toInt64, lg_cmp_ge, lg_cmp_le, lg_cmp_gt, lg_cmp_lt, lg_cmp_eq, Bool.false_eq_true, Bool.true_eq_false, reduceCtorEq, false_iff, true_iff, iff_true, iff_false, and_true, true_and, and_false, false_and, reduceIte, ite_true, ite_false, eq_self] at *)) <;> omega
                        refine wa_iinc (v := (1)) (lv' := fun y43 => [(2, .int y43), (0, .ref 84), (1, .int l1)]) (by decide) rfl (by decide) (fun _ => rfl) (fun y43 hy43 => ?_)
                        have ty43 := i_addT hy43.symm
                        clear hy43
                        refine wa_goto o_X12_findWork_72 (by decide) ?_
                        refine wa_pick [1, 2, 0] rfl ?_
                        exact ih31 _ (by ((try simp only [vp_in_iff, Int32.lt_iff_toInt_lt, Int32.le_iff_toInt_le, ← Int32.toInt_inj, Int32.reduceToInt, n_1, n_2, n_8, Int32.toNatClampNeg, Int64.lt_iff_toInt_lt, Int64.le_iff_toInt_le, ← Int64.toInt_inj, Int64.reduceToInt, Int32.toInt_toInt64, lg_cmp_ge, lg_cmp_le, lg_cmp_gt, lg_cmp_lt, lg_cmp_eq, Bool.false_eq_true, Bool.true_eq_false, reduceCtorEq, false_iff, true_iff, iff_true, iff_false, and_true, true_and, and_false, false_and, reduceIte, ite_true, ite_false, eq_self] at *)) <;> omega) _ _ ⟨Fs42, ((nxq_gi_si hs42 (by decide)).trans (khi32_0)), (ar_w hs42 Vs42 As30_134), (INW_of (fun k => nx_gb_si hs42) (fun k => nxq_gi_si hs42 (by decide)) (nxq_gi_si hs42 (by decide)) (fun k => nxq_gi_si hs42 (by decide)) (fun k => nxq_gi_si hs42 (by decide)) (fun k => nxq_gi_si hs42 (by decide)) (fun k => nxq_gi_si hs42 (by decide)) (fun k => nxq_gi_si hs42 (by decide)) (fun k => nxq_gi_si hs42 (by decide)) Ps30_INW), (by ((try simp only [vp_in_iff, Int32.lt_iff_toInt_lt, Int32.le_iff_toInt_le, ← Int32.toInt_inj, Int32.reduceToInt, n_1, n_2, n_8, Int32.toNatClampNeg, Int64.lt_iff_toInt_lt, Int64.le_iff_toInt_le, ← Int64.toInt_inj, Int64.reduceToInt, Int32.toInt_toInt64, lg_cmp_ge, lg_cmp_le, lg_cmp_gt, lg_cmp_lt, lg_cmp_eq, Bool.false_eq_true, Bool.true_eq_false, reduceCtorEq, false_iff, true_iff, iff_true, iff_false, and_true, true_and, and_false, false_and, reduceIte, ite_true, ite_false, eq_self] at *)) <;> omega), (by first | assumption | exact wkp_w hs42 (by assumption) (by ((try simp only [vp_in_iff, Int32.lt_iff_toInt_lt, Int32.le_iff_toInt_le, ← Int32.toInt_inj, Int32.reduceToInt, n_1, n_2, n_8, Int32.toNatClampNeg, Int64.lt_iff_toInt_lt, Int64.le_iff_toInt_le, ← Int64.toInt_inj, Int64.reduceToInt, Int32.toInt_toInt64, lg_cmp_ge, lg_cmp_le, lg_cmp_gt, lg_cmp_lt, lg_cmp_eq, Bool.false_eq_true, Bool.true_eq_false, reduceCtorEq, false_iff, true_iff, iff_true, iff_false, and_true, true_and, and_false, false_and, reduceIte, ite_true, ite_false, eq_self] at *)) <;> omega)), (by first | exact wkq_w hs42 (by assumption) (by ((try simp only [vp_in_iff, Int32.lt_iff_toInt_lt, Int32.le_iff_toInt_le, ← Int32.toInt_inj, Int32.reduceToInt, n_1, n_2, n_8, Int32.toNatClampNeg, Int64.lt_iff_toInt_lt, Int64.le_iff_toInt_le, ← Int64.toInt_inj, Int64.reduceToInt, Int32.toInt_toInt64, lg_cmp_ge, lg_cmp_le, lg_cmp_gt, lg_cmp_lt, lg_cmp_eq, Bool.false_eq_true, Bool.true_eq_false, reduceCtorEq, false_iff, true_iff, iff_true, iff_false, and_true, true_and, and_false, false_and, reduceIte, ite_true, ite_false, eq_self] at *)) <;> omega) (by ((try simp only [vp_in_iff, Int32.lt_iff_toInt_lt, Int32.le_iff_toInt_le, ← Int32.toInt_inj, Int32.reduceToInt, n_1, n_2, n_8, Int32.toNatClampNeg, Int64.lt_iff_toInt_lt, Int64.le_iff_toInt_le, ← Int64.toInt_inj, Int64.reduceToInt, Int32.toInt_toInt64, lg_cmp_ge, lg_cmp_le, lg_cmp_gt, lg_cmp_lt, lg_cmp_eq, Bool.false_eq_true, Bool.true_eq_false, reduceCtorEq, false_iff, true_iff, iff_true, iff_false, and_true, true_and, and_false, false_and, reduceIte, ite_true, ite_false, eq_self] at *)) <;> omega) ⟨v106.1, by have e9 := v106.2; first | (rw [(khi32_0)] at e9; ((try simp only [vp_in_iff, Int32.lt_iff_toInt_lt, Int32.le_iff_toInt_le, ← Int32.toInt_inj, Int32.reduceToInt, n_1, n_2, n_8, Int32.toNatClampNeg, Int64.lt_iff_toInt_lt, Int64.le_iff_toInt_le, ← Int64.toInt_inj, Int64.reduceToInt, Int32.toInt_toInt64, lg_cmp_ge, lg_cmp_le, lg_cmp_gt, lg_cmp_lt, lg_cmp_eq, Bool.false_eq_true, Bool.true_eq_false, reduceCtorEq, false_iff, true_iff, iff_true, iff_false, and_true, true_and, and_false, false_and, reduceIte, ite_true, ite_false, eq_self] at *)) <;> omega) | (((try simp only [vp_in_iff, Int32.lt_iff_toInt_lt, Int32.le_iff_toInt_le, ← Int32.toInt_inj, Int32.reduceToInt, n_1, n_2, n_8, Int32.toNatClampNeg, Int64.lt_iff_toInt_lt, Int64.le_iff_toInt_le, ← Int64.toInt_inj, Int64.reduceToInt, Int32.toInt_toInt64, lg_cmp_ge, lg_cmp_le, lg_cmp_gt, lg_cmp_lt, lg_cmp_eq, Bool.false_eq_true, Bool.true_eq_false, reduceCtorEq, false_iff, true_iff, iff_true, iff_false, and_true, true_and, and_false, false_and, reduceIte, ite_true, ite_false, eq_self] at *)) <;> omega)⟩ | exact wkq_0 (by ((try simp only [vp_in_iff, Int32.lt_iff_toInt_lt, Int32.le_iff_toInt_le, ← Int32.toInt_inj, Int32.reduceToInt, n_1, n_2, n_8, Int32.toNatClampNeg, Int64.lt_iff_toInt_lt, Int64.le_iff_toInt_le, ← Int64.toInt_inj, Int64.reduceToInt, Int32.toInt_toInt64, lg_cmp_ge, lg_cmp_le, lg_cmp_gt, lg_cmp_lt, lg_cmp_eq, Bool.false_eq_true, Bool.true_eq_false, reduceCtorEq, false_iff, true_iff, iff_true, iff_false, and_true, true_and, and_false, false_and, reduceIte, ite_true, ite_false, eq_self] at *)) <;> omega)), trivial⟩ rfl
                exact hi32 _ _ _ ⟨Fs6, (khi8_0), As6_134, Ps6_INW, (by ((try simp only [vp_in_iff, Int32.lt_iff_toInt_lt, Int32.le_iff_toInt_le, ← Int32.toInt_inj, Int32.reduceToInt, n_1, n_2, n_8, Int32.toNatClampNeg, Int64.lt_iff_toInt_lt, Int64.le_iff_toInt_le, ← Int64.toInt_inj, Int64.reduceToInt, Int32.toInt_toInt64, lg_cmp_ge, lg_cmp_le, lg_cmp_gt, lg_cmp_lt, lg_cmp_eq, Bool.false_eq_true, Bool.true_eq_false, reduceCtorEq, false_iff, true_iff, iff_true, iff_false, and_true, true_and, and_false, false_and, reduceIte, ite_true, ite_false, eq_self] at *)) <;> omega), (by first | assumption | exact wkp_w hs6 (by assumption) (by ((try simp only [vp_in_iff, Int32.lt_iff_toInt_lt, Int32.le_iff_toInt_le, ← Int32.toInt_inj, Int32.reduceToInt, n_1, n_2, n_8, Int32.toNatClampNeg, Int64.lt_iff_toInt_lt, Int64.le_iff_toInt_le, ← Int64.toInt_inj, Int64.reduceToInt, Int32.toInt_toInt64, lg_cmp_ge, lg_cmp_le, lg_cmp_gt, lg_cmp_lt, lg_cmp_eq, Bool.false_eq_true, Bool.true_eq_false, reduceCtorEq, false_iff, true_iff, iff_true, iff_false, and_true, true_and, and_false, false_and, reduceIte, ite_true, ite_false, eq_self] at *)) <;> omega)), (by first | exact wkq_w hs6 (by assumption) (by ((try simp only [vp_in_iff, Int32.lt_iff_toInt_lt, Int32.le_iff_toInt_le, ← Int32.toInt_inj, Int32.reduceToInt, n_1, n_2, n_8, Int32.toNatClampNeg, Int64.lt_iff_toInt_lt, Int64.le_iff_toInt_le, ← Int64.toInt_inj, Int64.reduceToInt, Int32.toInt_toInt64, lg_cmp_ge, lg_cmp_le, lg_cmp_gt, lg_cmp_lt, lg_cmp_eq, Bool.false_eq_true, Bool.true_eq_false, reduceCtorEq, false_iff, true_iff, iff_true, iff_false, and_true, true_and, and_false, false_and, reduceIte, ite_true, ite_false, eq_self] at *)) <;> omega) (by ((try simp only [vp_in_iff, Int32.lt_iff_toInt_lt, Int32.le_iff_toInt_le, ← Int32.toInt_inj, Int32.reduceToInt, n_1, n_2, n_8, Int32.toNatClampNeg, Int64.lt_iff_toInt_lt, Int64.le_iff_toInt_le, ← Int64.toInt_inj, Int64.reduceToInt, Int32.toInt_toInt64, lg_cmp_ge, lg_cmp_le, lg_cmp_gt, lg_cmp_lt, lg_cmp_eq, Bool.false_eq_true, Bool.true_eq_false, reduceCtorEq, false_iff, true_iff, iff_true, iff_false, and_true, true_and, and_false, false_and, reduceIte, ite_true, ite_false, eq_self] at *)) <;> omega) ⟨v106.1, by have e9 := v106.2; first | (rw [(khi3_0)] at e9; ((try simp only [vp_in_iff, Int32.lt_iff_toInt_lt, Int32.le_iff_toInt_le, ← Int32.toInt_inj, Int32.reduceToInt, n_1, n_2, n_8, Int32.toNatClampNeg, Int64.lt_iff_toInt_lt, Int64.le_iff_toInt_le, ← Int64.toInt_inj, Int64.reduceToInt, Int32.toInt_toInt64, lg_cmp_ge, lg_cmp_le, lg_cmp_gt, lg_cmp_lt, lg_cmp_eq, Bool.false_eq_true, Bool.true_eq_false, reduceCtorEq, false_iff, true_iff, iff_true, iff_false, and_true, true_and, and_false, false_and, reduceIte, ite_true, ite_false, eq_self] at *)) <;> omega) | (((try simp only [vp_in_iff, Int32.lt_iff_toInt_lt, Int32.le_iff_toInt_le, ← Int32.toInt_inj, Int32.reduceToInt, n_1, n_2, n_8, Int32.toNatClampNeg, Int64.lt_iff_toInt_lt, Int64.le_iff_toInt_le, ← Int64.toInt_inj, Int64.reduceToInt, Int32.toInt_toInt64, lg_cmp_ge, lg_cmp_le, lg_cmp_gt, lg_cmp_lt, lg_cmp_eq, Bool.false_eq_true, Bool.true_eq_false, reduceCtorEq, false_iff, true_iff, iff_true, iff_false, and_true, true_and, and_false, false_and, reduceIte, ite_true, ite_false, eq_self] at *)) <;> omega)⟩ | exact wkq_0 (by ((try simp only [vp_in_iff, Int32.lt_iff_toInt_lt, Int32.le_iff_toInt_le, ← Int32.toInt_inj, Int32.reduceToInt, n_1, n_2, n_8, Int32.toNatClampNeg, Int64.lt_iff_toInt_lt, Int64.le_iff_toInt_le, ← Int64.toInt_inj, Int64.reduceToInt, Int32.toInt_toInt64, lg_cmp_ge, lg_cmp_le, lg_cmp_gt, lg_cmp_lt, lg_cmp_eq, Bool.false_eq_true, Bool.true_eq_false, reduceCtorEq, false_iff, true_iff, iff_true, iff_false, and_true, true_and, and_false, false_and, reduceIte, ite_true, ite_false, eq_self] at *)) <;> omega)), trivial⟩ rfl
              · have mh28 := nle_mx h28
                refine wa_aload_n (i := 0) rfl rfl ?_
                refine wa_getr ck_12 fl_12_108 ly_84 rf_84_41 ?_
                refine wa_iload_n (i := 2) rfl rfl ?_
                refine wa_iald ly_198 (by ((try simp only [vp_in_iff, Int32.lt_iff_toInt_lt, Int32.le_iff_toInt_le, ← Int32.toInt_inj, Int32.reduceToInt, n_1, n_2, n_8, Int32.toNatClampNeg, Int64.lt_iff_toInt_lt, Int64.le_iff_toInt_le, ← Int64.toInt_inj, Int64.reduceToInt, Int32.toInt_toInt64, lg_cmp_ge, lg_cmp_le, lg_cmp_gt, lg_cmp_lt, lg_cmp_eq, Bool.false_eq_true, Bool.true_eq_false, reduceCtorEq, false_iff, true_iff, iff_true, iff_false, and_true, true_and, and_false, false_and, reduceIte, ite_true, ite_false, eq_self] at *)) <;> omega) ?_
                refine wa_top (fun v44 hv44 => ?_)
                have qv44 := hv44
                clear hv44
                refine wa_bipush (v := 20) (by decide) ?_
                refine wa_icmp_ne o_X12_findWork_61 (by decide) (fun h45 => ?_) (fun h45 => ?_)
                · refine wa_iinc (v := (1)) (lv' := fun y46 => [(2, .int y46), (0, .ref 84), (1, .int l1)]) (by decide) rfl (by decide) (fun _ => rfl) (fun y46 hy46 => ?_)
                  have ty46 := i_addT hy46.symm
                  clear hy46
                  refine wa_goto o_X12_findWork_13 (by decide) ?_
                  refine wa_pick [1, 2, 0] rfl ?_
                  exact ih7 _ (by ((try simp only [vp_in_iff, Int32.lt_iff_toInt_lt, Int32.le_iff_toInt_le, ← Int32.toInt_inj, Int32.reduceToInt, n_1, n_2, n_8, Int32.toNatClampNeg, Int64.lt_iff_toInt_lt, Int64.le_iff_toInt_le, ← Int64.toInt_inj, Int64.reduceToInt, Int32.toInt_toInt64, lg_cmp_ge, lg_cmp_le, lg_cmp_gt, lg_cmp_lt, lg_cmp_eq, Bool.false_eq_true, Bool.true_eq_false, reduceCtorEq, false_iff, true_iff, iff_true, iff_false, and_true, true_and, and_false, false_and, reduceIte, ite_true, ite_false, eq_self] at *)) <;> omega) _ _ ⟨Fs6, (khi8_0), As6_134, Ps6_INW, (by ((try simp only [vp_in_iff, Int32.lt_iff_toInt_lt, Int32.le_iff_toInt_le, ← Int32.toInt_inj, Int32.reduceToInt, n_1, n_2, n_8, Int32.toNatClampNeg, Int64.lt_iff_toInt_lt, Int64.le_iff_toInt_le, ← Int64.toInt_inj, Int64.reduceToInt, Int32.toInt_toInt64, lg_cmp_ge, lg_cmp_le, lg_cmp_gt, lg_cmp_lt, lg_cmp_eq, Bool.false_eq_true, Bool.true_eq_false, reduceCtorEq, false_iff, true_iff, iff_true, iff_false, and_true, true_and, and_false, false_and, reduceIte, ite_true, ite_false, eq_self] at *)) <;> omega), (by first | assumption | exact Ws6), trivial⟩ rfl
                · refine wa_aload_n (i := 0) rfl rfl ?_
                  refine wa_getr ck_12 fl_12_304 ly_84 rf_84_121 ?_
                  refine wa_aload_n (i := 0) rfl rfl ?_
                  refine wa_getr ck_12 fl_12_111 ly_84 rf_84_42 ?_
                  refine wa_iload_n (i := 2) rfl rfl ?_
                  refine wa_iald ly_197 (by ((try simp only [vp_in_iff, Int32.lt_iff_toInt_lt, Int32.le_iff_toInt_le, ← Int32.toInt_inj, Int32.reduceToInt, n_1, n_2, n_8, Int32.toNatClampNeg, Int64.lt_iff_toInt_lt, Int64.le_iff_toInt_le, ← Int64.toInt_inj, Int64.reduceToInt, Int32.toInt_toInt64, lg_cmp_ge, lg_cmp_le, lg_cmp_gt, lg_cmp_lt, lg_cmp_eq, Bool.false_eq_true, Bool.true_eq_false, reduceCtorEq, false_iff, true_iff, iff_true, iff_false, and_true, true_and, and_false, false_and, reduceIte, ite_true, ite_false, eq_self] at *)) <;> omega) ?_
                  refine wa_top (fun v47 hv47 => ?_)
                  have qv47 := hv47
                  have rv47 := nok_name (NOK_of (fun k => Fm.gi Fs6 (q := 194) (k := k) rfl rfl) (fun k => Fm.gi Fs6 (q := 195) (k := k) rfl rfl) (fun k => Fm.gi Fs6 (q := 196) (k := k) rfl rfl) (fun k => Fm.gi Fs6 (q := 197) (k := k) rfl rfl) (fun k => Fm.gi Fs6 (q := 198) (k := k) rfl rfl) (fun k => Fm.gi Fs6 (q := 183) (k := k) rfl rfl) P_NOK) (s := (l1).toNatClampNeg) (k := (l2).toNatClampNeg) (by ((try simp only [vp_in_iff, Int32.lt_iff_toInt_lt, Int32.le_iff_toInt_le, ← Int32.toInt_inj, Int32.reduceToInt, n_1, n_2, n_8, Int32.toNatClampNeg, Int64.lt_iff_toInt_lt, Int64.le_iff_toInt_le, ← Int64.toInt_inj, Int64.reduceToInt, Int32.toInt_toInt64, lg_cmp_ge, lg_cmp_le, lg_cmp_gt, lg_cmp_lt, lg_cmp_eq, Bool.false_eq_true, Bool.true_eq_false, reduceCtorEq, false_iff, true_iff, iff_true, iff_false, and_true, true_and, and_false, false_and, reduceIte, ite_true, ite_false, eq_self] at *)) <;> omega) (by ((try simp only [vp_in_iff, Int32.lt_iff_toInt_lt, Int32.le_iff_toInt_le, ← Int32.toInt_inj, Int32.reduceToInt, n_1, n_2, n_8, Int32.toNatClampNeg, Int64.lt_iff_toInt_lt, Int64.le_iff_toInt_le, ← Int64.toInt_inj, Int64.reduceToInt, Int32.toInt_toInt64, lg_cmp_ge, lg_cmp_le, lg_cmp_gt, lg_cmp_lt, lg_cmp_eq, Bool.false_eq_true, Bool.true_eq_false, reduceCtorEq, false_iff, true_iff, iff_true, iff_false, and_true, true_and, and_false, false_and, reduceIte, ite_true, ite_false, eq_self] at *)) <;> omega) (by ((try simp only [vp_in_iff, Int32.lt_iff_toInt_lt, Int32.le_iff_toInt_le, ← Int32.toInt_inj, Int32.reduceToInt, n_1, n_2, n_8, Int32.toNatClampNeg, Int64.lt_iff_toInt_lt, Int64.le_iff_toInt_le, ← Int64.toInt_inj, Int64.reduceToInt, Int32.toInt_toInt64, lg_cmp_ge, lg_cmp_le, lg_cmp_gt, lg_cmp_lt, lg_cmp_eq, Bool.false_eq_true, Bool.true_eq_false, reduceCtorEq, false_iff, true_iff, iff_true, iff_false, and_true, true_and, and_false, false_and, reduceIte, ite_true, ite_false, eq_self] at *)) <;> omega) (by ((try simp only [vp_in_iff, Int32.lt_iff_toInt_lt, Int32.le_iff_toInt_le, ← Int32.toInt_inj, Int32.reduceToInt, n_1, n_2, n_8, Int32.toNatClampNeg, Int64.lt_iff_toInt_lt, Int64.le_iff_toInt_le, ← Int64.toInt_inj, Int64.reduceToInt, Int32.toInt_toInt64, lg_cmp_ge, lg_cmp_le, lg_cmp_gt, lg_cmp_lt, lg_cmp_eq, Bool.false_eq_true, Bool.true_eq_false, reduceCtorEq, false_iff, true_iff, iff_true, iff_false, and_true, true_and, and_false, false_and, reduceIte, ite_true, ite_false, eq_self] at *)) <;> omega) hv47
                  clear hv47
                  refine wa_iconst (v := 1) (by decide) ?_
                  refine wa_zast true (rfl) ly_133 (by ((try simp only [vp_in_iff, Int32.lt_iff_toInt_lt, Int32.le_iff_toInt_le, ← Int32.toInt_inj, Int32.reduceToInt, n_1, n_2, n_8, Int32.toNatClampNeg, Int64.lt_iff_toInt_lt, Int64.le_iff_toInt_le, ← Int64.toInt_inj, Int64.reduceToInt, Int32.toInt_toInt64, lg_cmp_ge, lg_cmp_le, lg_cmp_gt, lg_cmp_lt, lg_cmp_eq, Bool.false_eq_true, Bool.true_eq_false, reduceCtorEq, false_iff, true_iff, iff_true, iff_false, and_true, true_and, and_false, false_and, reduceIte, ite_true, ite_false, eq_self] at *)) <;> omega) (fun s48 hs48 => ?_)
                  have Fs48 : Fm [133, 134] [] σ s48 := by rw [hs48]; exact Fm.sb Fs6 rfl
                  have Ws48 := wkp_need (c := (_ : Int32).toNatClampNeg) hs48 (by assumption) (by ((try simp only [vp_in_iff, Int32.lt_iff_toInt_lt, Int32.le_iff_toInt_le, ← Int32.toInt_inj, Int32.reduceToInt, n_1, n_2, n_8, Int32.toNatClampNeg, Int64.lt_iff_toInt_lt, Int64.le_iff_toInt_le, ← Int64.toInt_inj, Int64.reduceToInt, Int32.toInt_toInt64, lg_cmp_ge, lg_cmp_le, lg_cmp_gt, lg_cmp_lt, lg_cmp_eq, Bool.false_eq_true, Bool.true_eq_false, reduceCtorEq, false_iff, true_iff, iff_true, iff_false, and_true, true_and, and_false, false_and, reduceIte, ite_true, ite_false, eq_self] at *)) <;> omega)
                  have Ps48_INW := inw_need (a := (l1).toNatClampNeg) (k := (l2).toNatClampNeg) hs48 Ps6_INW (NAT_of (fun k => Fm.gi Fs6 (q := 194) (k := k) rfl rfl) (fun k => Fm.gi Fs6 (q := 198) (k := k) rfl rfl) (fun k => Fm.gi Fs6 (q := 197) (k := k) rfl rfl) (fun k => Fm.gi Fs6 (q := 156) (k := k) rfl rfl) (fun k => Fm.gi Fs6 (q := 157) (k := k) rfl rfl) (fun k => Fm.gi Fs6 (q := 158) (k := k) rfl rfl) (fun k => Fm.gi Fs6 (q := 159) (k := k) rfl rfl) P_NAT) (by ((try simp only [vp_in_iff, Int32.lt_iff_toInt_lt, Int32.le_iff_toInt_le, ← Int32.toInt_inj, Int32.reduceToInt, n_1, n_2, n_8, Int32.toNatClampNeg, Int64.lt_iff_toInt_lt, Int64.le_iff_toInt_le, ← Int64.toInt_inj, Int64.reduceToInt, Int32.toInt_toInt64, lg_cmp_ge, lg_cmp_le, lg_cmp_gt, lg_cmp_lt, lg_cmp_eq, Bool.false_eq_true, Bool.true_eq_false, reduceCtorEq, false_iff, true_iff, iff_true, iff_false, and_true, true_and, and_false, false_and, reduceIte, ite_true, ite_false, eq_self] at *)) <;> omega) (by assumption) (by ((try simp only [vp_in_iff, Int32.lt_iff_toInt_lt, Int32.le_iff_toInt_le, ← Int32.toInt_inj, Int32.reduceToInt, n_1, n_2, n_8, Int32.toNatClampNeg, Int64.lt_iff_toInt_lt, Int64.le_iff_toInt_le, ← Int64.toInt_inj, Int64.reduceToInt, Int32.toInt_toInt64, lg_cmp_ge, lg_cmp_le, lg_cmp_gt, lg_cmp_lt, lg_cmp_eq, Bool.false_eq_true, Bool.true_eq_false, reduceCtorEq, false_iff, true_iff, iff_true, iff_false, and_true, true_and, and_false, false_and, reduceIte, ite_true, ite_false, eq_self] at *)) <;> omega) (by ((try simp only [vp_in_iff, Int32.lt_iff_toInt_lt, Int32.le_iff_toInt_le, ← Int32.toInt_inj, Int32.reduceToInt, n_1, n_2, n_8, Int32.toNatClampNeg, Int64.lt_iff_toInt_lt, Int64.le_iff_toInt_le, ← Int64.toInt_inj, Int64.reduceToInt, Int32.toInt_toInt64, lg_cmp_ge, lg_cmp_le, lg_cmp_gt, lg_cmp_lt, lg_cmp_eq, Bool.false_eq_true, Bool.true_eq_false, reduceCtorEq, false_iff, true_iff, iff_true, iff_false, and_true, true_and, and_false, false_and, reduceIte, ite_true, ite_false, eq_self] at *)) <;> omega) (by ((try simp only [vp_in_iff, Int32.lt_iff_toInt_lt, Int32.le_iff_toInt_le, ← Int32.toInt_inj, Int32.reduceToInt, n_1, n_2, n_8, Int32.toNatClampNeg, Int64.lt_iff_toInt_lt, Int64.le_iff_toInt_le, ← Int64.toInt_inj, Int64.reduceToInt, Int32.toInt_toInt64, lg_cmp_ge, lg_cmp_le, lg_cmp_gt, lg_cmp_lt, lg_cmp_eq, Bool.false_eq_true, Bool.true_eq_false, reduceCtorEq, false_iff, true_iff, iff_true, iff_false, and_true, true_and, and_false, false_and, reduceIte, ite_true, ite_false, eq_self] at *)) <;> omega) (by ((try simp only [vp_in_iff, Int32.lt_iff_toInt_lt, Int32.le_iff_toInt_le, ← Int32.toInt_inj, Int32.reduceToInt, n_1, n_2, n_8, Int32.toNatClampNeg, Int64.lt_iff_toInt_lt, Int64.le_iff_toInt_le, ← Int64.toInt_inj, Int64.reduceToInt, Int32.toInt_toInt64, lg_cmp_ge, lg_cmp_le, lg_cmp_gt, lg_cmp_lt, lg_cmp_eq, Bool.false_eq_true, Bool.true_eq_false, reduceCtorEq, false_iff, true_iff, iff_true, iff_false, and_true, true_and, and_false, false_and, reduceIte, ite_true, ite_false, eq_self] at *)) <;> omega)
                  refine wa_iinc (v := (1)) (lv' := fun y49 => [(2, .int y49), (0, .ref 84), (1, .int l1)]) (by decide) rfl (by decide) (fun _ => rfl) (fun y49 hy49 => ?_)
                  have ty49 := i_addT hy49.symm
                  clear hy49
                  refine wa_goto o_X12_findWork_13 (by decide) ?_
                  refine wa_pick [1, 2, 0] rfl ?_
                  exact ih7 _ (by ((try simp only [vp_in_iff, Int32.lt_iff_toInt_lt, Int32.le_iff_toInt_le, ← Int32.toInt_inj, Int32.reduceToInt, n_1, n_2, n_8, Int32.toNatClampNeg, Int64.lt_iff_toInt_lt, Int64.le_iff_toInt_le, ← Int64.toInt_inj, Int64.reduceToInt, Int32.toInt_toInt64, lg_cmp_ge, lg_cmp_le, lg_cmp_gt, lg_cmp_lt, lg_cmp_eq, Bool.false_eq_true, Bool.true_eq_false, reduceCtorEq, false_iff, true_iff, iff_true, iff_false, and_true, true_and, and_false, false_and, reduceIte, ite_true, ite_false, eq_self] at *)) <;> omega) _ _ ⟨Fs48, ((nx_gi_sb hs48).trans (khi8_0)), (ar_nb hs48 As6_134), Ps48_INW, (by ((try simp only [vp_in_iff, Int32.lt_iff_toInt_lt, Int32.le_iff_toInt_le, ← Int32.toInt_inj, Int32.reduceToInt, n_1, n_2, n_8, Int32.toNatClampNeg, Int64.lt_iff_toInt_lt, Int64.le_iff_toInt_le, ← Int64.toInt_inj, Int64.reduceToInt, Int32.toInt_toInt64, lg_cmp_ge, lg_cmp_le, lg_cmp_gt, lg_cmp_lt, lg_cmp_eq, Bool.false_eq_true, Bool.true_eq_false, reduceCtorEq, false_iff, true_iff, iff_true, iff_false, and_true, true_and, and_false, false_and, reduceIte, ite_true, ite_false, eq_self] at *)) <;> omega), (by first | assumption | exact Ws48), trivial⟩ rfl
        exact hi8 _ _ _ ⟨Fs1, (khi3_0), As1_134, Ps1_INW, (by ((try simp only [vp_in_iff, Int32.lt_iff_toInt_lt, Int32.le_iff_toInt_le, ← Int32.toInt_inj, Int32.reduceToInt, n_1, n_2, n_8, Int32.toNatClampNeg, Int64.lt_iff_toInt_lt, Int64.le_iff_toInt_le, ← Int64.toInt_inj, Int64.reduceToInt, Int32.toInt_toInt64, lg_cmp_ge, lg_cmp_le, lg_cmp_gt, lg_cmp_lt, lg_cmp_eq, Bool.false_eq_true, Bool.true_eq_false, reduceCtorEq, false_iff, true_iff, iff_true, iff_false, and_true, true_and, and_false, false_and, reduceIte, ite_true, ite_false, eq_self] at *)) <;> omega), (by first | assumption | exact Ws1), trivial⟩ rfl
  exact hi3 _ _ _ ⟨(Fm.rf [133, 134] [] σ), (rfl), A_134, P_INW, (by ((try simp only [vp_in_iff, Int32.lt_iff_toInt_lt, Int32.le_iff_toInt_le, ← Int32.toInt_inj, Int32.reduceToInt, n_1, n_2, n_8, Int32.toNatClampNeg, Int64.lt_iff_toInt_lt, Int64.le_iff_toInt_le, ← Int64.toInt_inj, Int64.reduceToInt, Int32.toInt_toInt64, lg_cmp_ge, lg_cmp_le, lg_cmp_gt, lg_cmp_lt, lg_cmp_eq, Bool.false_eq_true, Bool.true_eq_false, reduceCtorEq, false_iff, true_iff, iff_true, iff_false, and_true, true_and, and_false, false_and, reduceIte, ite_true, ite_false, eq_self] at *)) <;> omega), (by first | exact wkp_24 (by decide) | exact wkp_no (a := (l1).toNatClampNeg) (by assumption) (by ((try simp only [vp_in_iff, Int32.lt_iff_toInt_lt, Int32.le_iff_toInt_le, ← Int32.toInt_inj, Int32.reduceToInt, n_1, n_2, n_8, Int32.toNatClampNeg, Int64.lt_iff_toInt_lt, Int64.le_iff_toInt_le, ← Int64.toInt_inj, Int64.reduceToInt, Int32.toInt_toInt64, lg_cmp_ge, lg_cmp_le, lg_cmp_gt, lg_cmp_lt, lg_cmp_eq, Bool.false_eq_true, Bool.true_eq_false, reduceCtorEq, false_iff, true_iff, iff_true, iff_false, and_true, true_and, and_false, false_and, reduceIte, ite_true, ite_false, eq_self] at *)) <;> omega) (by ((try simp only [vp_in_iff, Int32.lt_iff_toInt_lt, Int32.le_iff_toInt_le, ← Int32.toInt_inj, Int32.reduceToInt, n_1, n_2, n_8, Int32.toNatClampNeg, Int64.lt_iff_toInt_lt, Int64.le_iff_toInt_le, ← Int64.toInt_inj, Int64.reduceToInt, Int32.toInt_toInt64, lg_cmp_ge, lg_cmp_le, lg_cmp_gt, lg_cmp_lt, lg_cmp_eq, Bool.false_eq_true, Bool.true_eq_false, reduceCtorEq, false_iff, true_iff, iff_true, iff_false, and_true, true_and, and_false, false_and, reduceIte, ite_true, ite_false, eq_self] at *)) <;> omega) (by assumption) | exact wkp_yes (a := (l1).toNatClampNeg) (by assumption) (by assumption) (by ((try simp only [vp_in_iff, Int32.lt_iff_toInt_lt, Int32.le_iff_toInt_le, ← Int32.toInt_inj, Int32.reduceToInt, n_1, n_2, n_8, Int32.toNatClampNeg, Int64.lt_iff_toInt_lt, Int64.le_iff_toInt_le, ← Int64.toInt_inj, Int64.reduceToInt, Int32.toInt_toInt64, lg_cmp_ge, lg_cmp_le, lg_cmp_gt, lg_cmp_lt, lg_cmp_eq, Bool.false_eq_true, Bool.true_eq_false, reduceCtorEq, false_iff, true_iff, iff_true, iff_false, and_true, true_and, and_false, false_and, reduceIte, ite_true, ite_false, eq_self] at *)) <;> omega) (by ((try simp only [vp_in_iff, Int32.lt_iff_toInt_lt, Int32.le_iff_toInt_le, ← Int32.toInt_inj, Int32.reduceToInt, n_1, n_2, n_8, Int32.toNatClampNeg, Int64.lt_iff_toInt_lt, Int64.le_iff_toInt_le, ← Int64.toInt_inj, Int64.reduceToInt, Int32.toInt_toInt64, lg_cmp_ge, lg_cmp_le, lg_cmp_gt, lg_cmp_lt, lg_cmp_eq, Bool.false_eq_true, Bool.true_eq_false, reduceCtorEq, false_iff, true_iff, iff_true, iff_false, and_true, true_and, and_false, false_and, reduceIte, ite_true, ite_false, eq_self] at *)) <;> omega) (by ((try simp only [vp_in_iff, Int32.lt_iff_toInt_lt, Int32.le_iff_toInt_le, ← Int32.toInt_inj, Int32.reduceToInt, n_1, n_2, n_8, Int32.toNatClampNeg, Int64.lt_iff_toInt_lt, Int64.le_iff_toInt_le, ← Int64.toInt_inj, Int64.reduceToInt, Int32.toInt_toInt64, lg_cmp_ge, lg_cmp_le, lg_cmp_gt, lg_cmp_lt, lg_cmp_eq, Bool.false_eq_true, Bool.true_eq_false, reduceCtorEq, false_iff, true_iff, iff_true, iff_false, and_true, true_and, and_false, false_and, reduceIte, ite_true, ite_false, eq_self] at *)) <;> omega)), trivial⟩ rfl
set_option maxHeartbeats 4000000 in
theorem sp_X12_rest (G : kG9) {d : Nat} (hd : 0 ≤ d) (σ : St) (a0 : Int64) (a1 : Int64) (p1 : ¬ a1 = 0) : Ct G M_X12_rest d [.long a0, .long a1] σ (fun r σ' => ∃ x : Int64, r = some (.long x) ∧ σ = σ' ∧ True) := by
  refine wa_start (by decide) rfl (Nat.le_of_ble_eq_true rfl) (lv := [(0, .long a0), (2, .long a1)]) rfl o_X12_rest_0 rfl ?_
  refine wa_lload_n (i := 0) rfl rfl ?_
  refine wa_lload_n (i := 2) rfl rfl ?_
  refine wa_lrem (by ((try simp only [vp_in_iff, Int32.lt_iff_toInt_lt, Int32.le_iff_toInt_le, ← Int32.toInt_inj, Int32.reduceToInt, n_1, n_2, n_8, Int32.toNatClampNeg, Int64.lt_iff_toInt_lt, Int64.le_iff_toInt_le, ← Int64.toInt_inj, Int64.reduceToInt, Int32.toInt_toInt64, lg_cmp_ge, lg_cmp_le, lg_cmp_gt, lg_cmp_lt, lg_cmp_eq, Bool.false_eq_true, Bool.true_eq_false, reduceCtorEq, false_iff, true_iff, iff_true, iff_false, and_true, true_and, and_false, false_and, reduceIte, ite_true, ite_false, eq_self] at *)) <;> omega) ?_
  refine wa_topl (fun v1 hv1 => ?_)
  have tv1 := l_remU hv1
  clear hv1
  refine wa_lstoreD (lv' := [(4, .long v1), (0, .long a0), (2, .long a1)]) (by decide) rfl ?_
  refine wa_lload rfl ?_
  refine wa_lconst (v := 0) (by decide) ?_
  refine wa_lcmp ?_
  refine wa_top (fun v2 hv2 => ?_)
  have tv2 := i_cmpT hv2
  clear hv2
  refine wa_if_ge o_X12_rest_19 (by decide) (fun h3 => ?_) (fun h3 => ?_)
  · refine wa_lload rfl ?_
    refine wa_lreturn rfl rfl ?_
    exact ⟨_, rfl, rfl, trivial⟩
  · refine wa_lload rfl ?_
    refine wa_lload_n (i := 2) rfl rfl ?_
    refine wa_ladd ?_
    refine wa_topl (fun v4 hv4 => ?_)
    have tv4 := a_l_remU hv4
    clear hv4
    refine wa_goto o_X12_rest_21 (by decide) ?_
    refine wa_lreturn rfl rfl ?_
    exact ⟨_, rfl, rfl, trivial⟩
set_option maxHeartbeats 4000000 in
theorem sp_X12_isLit (G : kG9) {d : Nat} (hd : 0 ≤ d) (σ : St) (a0 : Int32) (a1 : Int32) (p1 : 0 ≤ a0.toInt ∧ a0.toInt < 25) (p2 : gb σ 133 (a0).toNatClampNeg = true) (p3 : a1.toInt < 2 * (gi σ 156 (a0).toNatClampNeg).toInt) (A_134 : AR ap_134 σ 134) (A_156 : AR ap_156 σ 156) (P_WKS : WKS σ) : Ct G M_X12_isLit d [.ref 84, .int a0, .int a1] σ (fun r σ' => ∃ x : Bool, r = some (.int (bI x)) ∧ σ = σ' ∧ True) := by
  refine wa_start (by decide) rfl (Nat.le_of_ble_eq_true rfl) (lv := [(0, .ref 84), (1, .int a0), (2, .int a1)]) rfl o_X12_isLit_0 rfl ?_
  have ua0 := Int32.toInt_lt a0
  have wa0 := Int32.le_toInt a0
  have ua1 := Int32.toInt_lt a1
  have wa1 := Int32.le_toInt a1
  have n156 : 0 ≤ (gi σ 156 (a0).toNatClampNeg).toInt ∧ (gi σ 156 (a0).toNatClampNeg).toInt ≤ 24 := ar_at A_156 _
  refine wa_iload_n (i := 2) rfl rfl ?_
  refine wa_iconst (v := (-1)) (by decide) ?_
  refine wa_icmp_eq o_X12_isLit_42 (by decide) (fun h1 => ?_) (fun h1 => ?_)
  · refine wa_iconst (v := 1) (by decide) ?_
    refine wa_goto o_X12_isLit_47 (by decide) ?_
    refine wa_zreturn true (rfl) rfl rfl ?_
    exact ⟨_, rfl, rfl, trivial⟩
  · refine wa_iload_n (i := 2) rfl rfl ?_
    refine wa_if_lt o_X12_isLit_46 (by decide) (fun h2 => ?_) (fun h2 => ?_)
    · refine wa_iconst (v := 0) (by decide) ?_
      refine wa_zreturn false (rfl) rfl rfl ?_
      exact ⟨_, rfl, rfl, trivial⟩
    · refine wa_aload_n (i := 0) rfl rfl ?_
      refine wa_getr ck_12 fl_12_307 ly_84 rf_84_122 ?_
      refine wa_aload_n (i := 0) rfl rfl ?_
      refine wa_getr ck_12 fl_12_301 ly_84 rf_84_120 ?_
      refine wa_bipush (v := 24) (by decide) ?_
      refine wa_iload_n (i := 1) rfl rfl ?_
      refine wa_imul ?_
      refine wa_top (fun v3 hv3 => ?_)
      have tv3 := i_mulT hv3
      clear hv3
      refine wa_iload_n (i := 2) rfl rfl ?_
      refine wa_iconst (v := 2) (by decide) ?_
      refine wa_idiv (by ((try simp only [vp_in_iff, Int32.lt_iff_toInt_lt, Int32.le_iff_toInt_le, ← Int32.toInt_inj, Int32.reduceToInt, n_1, n_2, n_8, Int32.toNatClampNeg, Int64.lt_iff_toInt_lt, Int64.le_iff_toInt_le, ← Int64.toInt_inj, Int64.reduceToInt, Int32.toInt_toInt64, lg_cmp_ge, lg_cmp_le, lg_cmp_gt, lg_cmp_lt, lg_cmp_eq, Bool.false_eq_true, Bool.true_eq_false, reduceCtorEq, false_iff, true_iff, iff_true, iff_false, and_true, true_and, and_false, false_and, reduceIte, ite_true, ite_false, eq_self] at *)) <;> omega) ?_
      refine wa_top (fun v4 hv4 => ?_)
      have tv4 := i_divU hv4
      clear hv4
      refine wa_iadd ?_
      refine wa_top (fun v5 hv5 => ?_)
      have tv5 := i_addT hv5
      clear hv5
      refine wa_iald ly_134 (by ((try simp only [vp_in_iff, Int32.lt_iff_toInt_lt, Int32.le_iff_toInt_le, ← Int32.toInt_inj, Int32.reduceToInt, n_1, n_2, n_8, Int32.toNatClampNeg, Int64.lt_iff_toInt_lt, Int64.le_iff_toInt_le, ← Int64.toInt_inj, Int64.reduceToInt, Int32.toInt_toInt64, lg_cmp_ge, lg_cmp_le, lg_cmp_gt, lg_cmp_lt, lg_cmp_eq, Bool.false_eq_true, Bool.true_eq_false, reduceCtorEq, false_iff, true_iff, iff_true, iff_false, and_true, true_and, and_false, false_and, reduceIte, ite_true, ite_false, eq_self] at *)) <;> omega) ?_
      refine wa_top (fun v6 hv6 => ?_)
      have rv6 : -1 ≤ v6.toInt ∧ v6.toInt ≤ 700 := by rw [← hv6]; exact ar_at A_134 _
      have qv6 := hv6
      have rv6b := P_WKS (a0).toNatClampNeg (a1.toInt.toNat / 2) (by ((try simp only [vp_in_iff, Int32.lt_iff_toInt_lt, Int32.le_iff_toInt_le, ← Int32.toInt_inj, Int32.reduceToInt, n_1, n_2, n_8, Int32.toNatClampNeg, Int64.lt_iff_toInt_lt, Int64.le_iff_toInt_le, ← Int64.toInt_inj, Int64.reduceToInt, Int32.toInt_toInt64, lg_cmp_ge, lg_cmp_le, lg_cmp_gt, lg_cmp_lt, lg_cmp_eq, Bool.false_eq_true, Bool.true_eq_false, reduceCtorEq, false_iff, true_iff, iff_true, iff_false, and_true, true_and, and_false, false_and, reduceIte, ite_true, ite_false, eq_self] at *)) <;> omega) p2 (by ((try simp only [vp_in_iff, Int32.lt_iff_toInt_lt, Int32.le_iff_toInt_le, ← Int32.toInt_inj, Int32.reduceToInt, n_1, n_2, n_8, Int32.toNatClampNeg, Int64.lt_iff_toInt_lt, Int64.le_iff_toInt_le, ← Int64.toInt_inj, Int64.reduceToInt, Int32.toInt_toInt64, lg_cmp_ge, lg_cmp_le, lg_cmp_gt, lg_cmp_lt, lg_cmp_eq, Bool.false_eq_true, Bool.true_eq_false, reduceCtorEq, false_iff, true_iff, iff_true, iff_false, and_true, true_and, and_false, false_and, reduceIte, ite_true, ite_false, eq_self] at *)) <;> omega)
      rw [show 24 * (a0).toNatClampNeg + a1.toInt.toNat / 2 = (v5).toNatClampNeg from by ((try simp only [vp_in_iff, Int32.lt_iff_toInt_lt, Int32.le_iff_toInt_le, ← Int32.toInt_inj, Int32.reduceToInt, n_1, n_2, n_8, Int32.toNatClampNeg, Int64.lt_iff_toInt_lt, Int64.le_iff_toInt_le, ← Int64.toInt_inj, Int64.reduceToInt, Int32.toInt_toInt64, lg_cmp_ge, lg_cmp_le, lg_cmp_gt, lg_cmp_lt, lg_cmp_eq, Bool.false_eq_true, Bool.true_eq_false, reduceCtorEq, false_iff, true_iff, iff_true, iff_false, and_true, true_and, and_false, false_and, reduceIte, ite_true, ite_false, eq_self] at *)) <;> omega, hv6] at rv6b
      clear hv6
      refine wa_zald ly_132 (by ((try simp only [vp_in_iff, Int32.lt_iff_toInt_lt, Int32.le_iff_toInt_le, ← Int32.toInt_inj, Int32.reduceToInt, n_1, n_2, n_8, Int32.toNatClampNeg, Int64.lt_iff_toInt_lt, Int64.le_iff_toInt_le, ← Int64.toInt_inj, Int64.reduceToInt, Int32.toInt_toInt64, lg_cmp_ge, lg_cmp_le, lg_cmp_gt, lg_cmp_lt, lg_cmp_eq, Bool.false_eq_true, Bool.true_eq_false, reduceCtorEq, false_iff, true_iff, iff_true, iff_false, and_true, true_and, and_false, false_and, reduceIte, ite_true, ite_false, eq_self] at *)) <;> omega) ?_
      refine wa_iload_n (i := 2) rfl rfl ?_
      refine wa_iconst (v := 2) (by decide) ?_
      refine wa_irem (by ((try simp only [vp_in_iff, Int32.lt_iff_toInt_lt, Int32.le_iff_toInt_le, ← Int32.toInt_inj, Int32.reduceToInt, n_1, n_2, n_8, Int32.toNatClampNeg, Int64.lt_iff_toInt_lt, Int64.le_iff_toInt_le, ← Int64.toInt_inj, Int64.reduceToInt, Int32.toInt_toInt64, lg_cmp_ge, lg_cmp_le, lg_cmp_gt, lg_cmp_lt, lg_cmp_eq, Bool.false_eq_true, Bool.true_eq_false, reduceCtorEq, false_iff, true_iff, iff_true, iff_false, and_true, true_and, and_false, false_and, reduceIte, ite_true, ite_false, eq_self] at *)) <;> omega) ?_
      refine wa_top (fun v7 hv7 => ?_)
      have tv7 := i_remU hv7
      clear hv7
      refine wa_iconst (v := 1) (by decide) ?_
      refine wa_icmp_ne o_X12_isLit_38 (by decide) (fun h8 => ?_) (fun h8 => ?_)
      · refine wa_iconst (v := 0) (by decide) ?_
        refine wa_icmp_eq o_X12_isLit_46 (by decide) (fun h9 => ?_) (fun h9 => ?_)
        · refine wa_iconst (v := 0) (by decide) ?_
          refine wa_zreturn false (rfl) rfl rfl ?_
          exact ⟨_, rfl, rfl, trivial⟩
        · refine wa_iconst (v := 1) (by decide) ?_
          refine wa_goto o_X12_isLit_47 (by decide) ?_
          refine wa_zreturn true (rfl) rfl rfl ?_
          exact ⟨_, rfl, rfl, trivial⟩
      · refine wa_iconst (v := 1) (by decide) ?_
        refine wa_goto o_X12_isLit_39 (by decide) ?_
        refine wa_icmp_eq o_X12_isLit_46 (by decide) (fun h10 => ?_) (fun h10 => ?_)
        · refine wa_iconst (v := 0) (by decide) ?_
          refine wa_zreturn false (rfl) rfl rfl ?_
          exact ⟨_, rfl, rfl, trivial⟩
        · refine wa_iconst (v := 1) (by decide) ?_
          refine wa_goto o_X12_isLit_47 (by decide) ?_
          refine wa_zreturn true (rfl) rfl rfl ?_
          exact ⟨_, rfl, rfl, trivial⟩
set_option maxHeartbeats 4000000 in
theorem sp_X12_isLeaf (G : kG9) {d : Nat} (hd : 1 ≤ d) (σ : St) (a0 : Int32) (a1 : Int32) (p1 : 0 ≤ a0.toInt ∧ a0.toInt < 25) (p2 : gb σ 133 (a0).toNatClampNeg = true) (p3 : 61 * a0.toInt ≤ a1.toInt ∧ a1.toInt < 61 * a0.toInt + (gi σ 183 (a0).toNatClampNeg).toInt) (A_134 : AR ap_134 σ 134) (A_155 : AR ap_155 σ 155) (A_156 : AR ap_156 σ 156) (A_183 : AR ap_183 σ 183) (A_184 : AR ap_184 σ 184) (A_185 : AR ap_185 σ 185) (P_WKS : WKS σ) (P_CLI : CLI σ) : Ct G M_X12_isLeaf d [.ref 84, .int a0, .int a1] σ (fun r σ' => ∃ x : Bool, r = some (.int (bI x)) ∧ σ = σ' ∧ True) := by
  refine wa_start (by decide) rfl (Nat.le_of_ble_eq_true rfl) (lv := [(0, .ref 84), (1, .int a0), (2, .int a1)]) rfl o_X12_isLeaf_0 rfl ?_
  have ua0 := Int32.toInt_lt a0
  have wa0 := Int32.le_toInt a0
  have ua1 := Int32.toInt_lt a1
  have wa1 := Int32.le_toInt a1
  have n183 : 0 ≤ (gi σ 183 (a0).toNatClampNeg).toInt ∧ (gi σ 183 (a0).toNatClampNeg).toInt ≤ 61 := ar_at A_183 _
  refine wa_aload_n (i := 0) rfl rfl ?_
  refine wa_getr ck_12 fl_12_147 ly_84 rf_84_54 ?_
  refine wa_iload_n (i := 2) rfl rfl ?_
  refine wa_iald ly_185 (by ((try simp only [vp_in_iff, Int32.lt_iff_toInt_lt, Int32.le_iff_toInt_le, ← Int32.toInt_inj, Int32.reduceToInt, n_1, n_2, n_8, Int32.toNatClampNeg, Int64.lt_iff_toInt_lt, Int64.le_iff_toInt_le, ← Int64.toInt_inj, Int64.reduceToInt, Int32.toInt_toInt64, lg_cmp_ge, lg_cmp_le, lg_cmp_gt, lg_cmp_lt, lg_cmp_eq, Bool.false_eq_true, Bool.true_eq_false, reduceCtorEq, false_iff, true_iff, iff_true, iff_false, and_true, true_and, and_false, false_and, reduceIte, ite_true, ite_false, eq_self] at *)) <;> omega) ?_
  refine wa_top (fun v1 hv1 => ?_)
  have rv1 : 0 ≤ v1.toInt ∧ v1.toInt ≤ 1600 := by rw [← hv1]; exact ar_at A_185 _
  have qv1 := hv1
  clear hv1
  refine wa_istore_nD (lv' := [(3, .int v1), (0, .ref 84), (1, .int a0), (2, .int a1)]) (i := 3) rfl (by decide) rfl ?_
  refine wa_pick [1, 2, 3, 0] rfl ?_
  have hi3 : ∀ (n9_7 : Nat) (l3 : Int32), (((gi σ 185 (a1).toNatClampNeg).toInt ≤ l3.toInt) ∧ (True)) → (2147483647 - l3.toInt).toNat = n9_7 → WA G M_X12_isLeaf (ZM G M_X12_isLeaf d (fun r σ' => ∃ x : Bool, r = some (.int (bI x)) ∧ σ = σ' ∧ True)) B_X12_isLeaf_7 [(0, .ref 84), (1, .int a0), (2, .int a1), (3, .int l3)] [] σ := by
    intro n9_7
    induction n9_7 using Nat.strongRecOn with
    | _ n9_7 ih2 =>
      intro l3  i9 m9_7
      obtain ⟨jhi3_0, -⟩ := i9
      have ul3 := Int32.toInt_lt l3
      have wl3 := Int32.le_toInt l3
      refine wa_iload_n (i := 3) rfl rfl ?_
      refine wa_aload_n (i := 0) rfl rfl ?_
      refine wa_getr ck_12 fl_12_147 ly_84 rf_84_54 ?_
      refine wa_iload_n (i := 2) rfl rfl ?_
      refine wa_iald ly_185 (by ((try simp only [vp_in_iff, Int32.lt_iff_toInt_lt, Int32.le_iff_toInt_le, ← Int32.toInt_inj, Int32.reduceToInt, n_1, n_2, n_8, Int32.toNatClampNeg, Int64.lt_iff_toInt_lt, Int64.le_iff_toInt_le, ← Int64.toInt_inj, Int64.reduceToInt, Int32.toInt_toInt64, lg_cmp_ge, lg_cmp_le, lg_cmp_gt, lg_cmp_lt, lg_cmp_eq, Bool.false_eq_true, Bool.true_eq_false, reduceCtorEq, false_iff, true_iff, iff_true, iff_false, and_true, true_and, and_false, false_and, reduceIte, ite_true, ite_false, eq_self] at *)) <;> omega) ?_
      refine wa_top (fun v4 hv4 => ?_)
      have rv4 : 0 ≤ v4.toInt ∧ v4.toInt ≤ 1600 := by rw [← hv4]; exact ar_at A_185 _
      have qv4 := hv4
      clear hv4
      refine wa_aload_n (i := 0) rfl rfl ?_
      refine wa_getr ck_12 fl_12_150 ly_84 rf_84_55 ?_
      refine wa_iload_n (i := 2) rfl rfl ?_
      refine wa_iald ly_184 (by ((try simp only [vp_in_iff, Int32.lt_iff_toInt_lt, Int32.le_iff_toInt_le, ← Int32.toInt_inj, Int32.reduceToInt, n_1, n_2, n_8, Int32.toNatClampNeg, Int64.lt_iff_toInt_lt, Int64.le_iff_toInt_le, ← Int64.toInt_inj, Int64.reduceToInt, Int32.toInt_toInt64, lg_cmp_ge, lg_cmp_le, lg_cmp_gt, lg_cmp_lt, lg_cmp_eq, Bool.false_eq_true, Bool.true_eq_false, reduceCtorEq, false_iff, true_iff, iff_true, iff_false, and_true, true_and, and_false, false_and, reduceIte, ite_true, ite_false, eq_self] at *)) <;> omega) ?_
      refine wa_top (fun v5 hv5 => ?_)
      have rv5 : 0 ≤ v5.toInt ∧ v5.toInt ≤ 64 := by rw [← hv5]; exact ar_at A_184 _
      have qv5 := hv5
      clear hv5
      refine wa_iadd ?_
      refine wa_top (fun v6 hv6 => ?_)
      have tv6 := i_addT hv6
      clear hv6
      refine wa_icmp_ge o_X12_isLeaf_148 (by decide) (fun h7 => ?_) (fun h7 => ?_)
      · refine wa_iconst (v := 0) (by decide) ?_
        refine wa_zreturn false (rfl) rfl rfl ?_
        exact ⟨_, rfl, rfl, trivial⟩
      · have mh7 := nle_mx h7
        refine wa_iconst (v := 1) (by decide) ?_
        refine wa_istoreD (lv' := [(4, .int (bI true)), (0, .ref 84), (1, .int a0), (2, .int a1), (3, .int l3)]) (by decide) rfl ?_
        refine wa_iconst (v := 0) (by decide) ?_
        refine wa_istoreD (lv' := [(5, .int 0), (4, .int (bI true)), (0, .ref 84), (1, .int a0), (2, .int a1), (3, .int l3)]) (by decide) rfl ?_
        refine wa_pick [2, 3, 4, 5, 1, 0] rfl ?_
        have hi9 : ∀ (n9_30 : Nat) (l4 : Bool) (l5 : Int32), ((0 ≤ l5.toInt) ∧ (True)) → (2147483647 - l5.toInt).toNat = n9_30 → WA G M_X12_isLeaf (ZM G M_X12_isLeaf d (fun r σ' => ∃ x : Bool, r = some (.int (bI x)) ∧ σ = σ' ∧ True)) B_X12_isLeaf_30 [(0, .ref 84), (1, .int a0), (2, .int a1), (3, .int l3), (4, .int (bI l4)), (5, .int l5)] [] σ := by
          intro n9_30
          induction n9_30 using Nat.strongRecOn with
          | _ n9_30 ih8 =>
            intro l4 l5  i9 m9_30
            obtain ⟨jhi9_0, -⟩ := i9
            have ul5 := Int32.toInt_lt l5
            have wl5 := Int32.le_toInt l5
            refine wa_iload rfl ?_
            refine wa_bipush (v := 6) (by decide) ?_
            refine wa_icmp_ge o_X12_isLeaf_67 (by decide) (fun h10 => ?_) (fun h10 => ?_)
            · refine wa_iload rfl ?_
              refine wa_if_eq o_X12_isLeaf_142 (by decide) (fun h11 => ?_) (fun h11 => ?_)
              · replace h11 := bI_f (b := l4) (rfl) h11
                refine wa_iinc (v := (1)) (lv' := fun y12 => [(3, .int y12), (0, .ref 84), (1, .int a0), (2, .int a1), (4, .int (bI l4)), (5, .int l5)]) (by decide) rfl (by decide) (fun _ => rfl) (fun y12 hy12 => ?_)
                have ty12 := i_addT hy12.symm
                clear hy12
                refine wa_goto o_X12_isLeaf_7 (by decide) ?_
                refine wa_pick [1, 2, 3, 0] rfl ?_
                exact ih2 _ (by ((try simp only [vp_in_iff, Int32.lt_iff_toInt_lt, Int32.le_iff_toInt_le, ← Int32.toInt_inj, Int32.reduceToInt, n_1, n_2, n_8, Int32.toNatClampNeg, Int64.lt_iff_toInt_lt, Int64.le_iff_toInt_le, ← Int64.toInt_inj, Int64.reduceToInt, Int32.toInt_toInt64, lg_cmp_ge, lg_cmp_le, lg_cmp_gt, lg_cmp_lt, lg_cmp_eq, Bool.false_eq_true, Bool.true_eq_false, reduceCtorEq, false_iff, true_iff, iff_true, iff_false, and_true, true_and, and_false, false_and, reduceIte, ite_true, ite_false, eq_self] at *)) <;> omega) _ ⟨(by ((try simp only [vp_in_iff, Int32.lt_iff_toInt_lt, Int32.le_iff_toInt_le, ← Int32.toInt_inj, Int32.reduceToInt, n_1, n_2, n_8, Int32.toNatClampNeg, Int64.lt_iff_toInt_lt, Int64.le_iff_toInt_le, ← Int64.toInt_inj, Int64.reduceToInt, Int32.toInt_toInt64, lg_cmp_ge, lg_cmp_le, lg_cmp_gt, lg_cmp_lt, lg_cmp_eq, Bool.false_eq_true, Bool.true_eq_false, reduceCtorEq, false_iff, true_iff, iff_true, iff_false, and_true, true_and, and_false, false_and, reduceIte, ite_true, ite_false, eq_self] at *)) <;> omega), trivial⟩ rfl
              · replace h11 := bI_t (b := l4) (rfl) h11
                refine wa_aload_n (i := 0) rfl rfl ?_
                refine wa_iload_n (i := 1) rfl rfl ?_
                refine wa_aload_n (i := 0) rfl rfl ?_
                refine wa_getr ck_12 fl_12_238 ly_84 rf_84_90 ?_
                refine wa_bipush (v := 8) (by decide) ?_
                refine wa_iload_n (i := 3) rfl rfl ?_
                refine wa_imul ?_
                refine wa_top (fun v13 hv13 => ?_)
                have tv13 := i_mulT hv13
                clear hv13
                refine wa_bipush (v := 6) (by decide) ?_
                refine wa_iadd ?_
                refine wa_top (fun v14 hv14 => ?_)
                have tv14 := i_addT hv14
                clear hv14
                refine wa_iald ly_155 (by ((try simp only [vp_in_iff, Int32.lt_iff_toInt_lt, Int32.le_iff_toInt_le, ← Int32.toInt_inj, Int32.reduceToInt, n_1, n_2, n_8, Int32.toNatClampNeg, Int64.lt_iff_toInt_lt, Int64.le_iff_toInt_le, ← Int64.toInt_inj, Int64.reduceToInt, Int32.toInt_toInt64, lg_cmp_ge, lg_cmp_le, lg_cmp_gt, lg_cmp_lt, lg_cmp_eq, Bool.false_eq_true, Bool.true_eq_false, reduceCtorEq, false_iff, true_iff, iff_true, iff_false, and_true, true_and, and_false, false_and, reduceIte, ite_true, ite_false, eq_self] at *)) <;> omega) ?_
                refine wa_top (fun v15 hv15 => ?_)
                have rv15 : -2 ≤ v15.toInt ∧ v15.toInt ≤ 47 := by rw [← hv15]; exact ar_at A_155 _
                have qv15 := hv15
                clear hv15
                refine wa_Vi (d9 := d - 1) [.int _, .int _] [] (sp_X12_isLit G (d := d - 1) (by omega) σ _ _ (by ((try simp only [vp_in_iff, Int32.lt_iff_toInt_lt, Int32.le_iff_toInt_le, ← Int32.toInt_inj, Int32.reduceToInt, n_1, n_2, n_8, Int32.toNatClampNeg, Int64.lt_iff_toInt_lt, Int64.le_iff_toInt_le, ← Int64.toInt_inj, Int64.reduceToInt, Int32.toInt_toInt64, lg_cmp_ge, lg_cmp_le, lg_cmp_gt, lg_cmp_lt, lg_cmp_eq, Bool.false_eq_true, Bool.true_eq_false, reduceCtorEq, false_iff, true_iff, iff_true, iff_false, and_true, true_and, and_false, false_and, reduceIte, ite_true, ite_false, eq_self] at *)) <;> omega) (by assumption) (cli_lt P_CLI (s := (a0).toNatClampNeg) (l := (a1).toNatClampNeg) (c := (l3).toNatClampNeg) (i := 6) (by assumption) (by ((try simp only [vp_in_iff, Int32.lt_iff_toInt_lt, Int32.le_iff_toInt_le, ← Int32.toInt_inj, Int32.reduceToInt, n_1, n_2, n_8, Int32.toNatClampNeg, Int64.lt_iff_toInt_lt, Int64.le_iff_toInt_le, ← Int64.toInt_inj, Int64.reduceToInt, Int32.toInt_toInt64, lg_cmp_ge, lg_cmp_le, lg_cmp_gt, lg_cmp_lt, lg_cmp_eq, Bool.false_eq_true, Bool.true_eq_false, reduceCtorEq, false_iff, true_iff, iff_true, iff_false, and_true, true_and, and_false, false_and, reduceIte, ite_true, ite_false, eq_self] at *)) <;> omega) (by ((try simp only [vp_in_iff, Int32.lt_iff_toInt_lt, Int32.le_iff_toInt_le, ← Int32.toInt_inj, Int32.reduceToInt, n_1, n_2, n_8, Int32.toNatClampNeg, Int64.lt_iff_toInt_lt, Int64.le_iff_toInt_le, ← Int64.toInt_inj, Int64.reduceToInt, Int32.toInt_toInt64, lg_cmp_ge, lg_cmp_le, lg_cmp_gt, lg_cmp_lt, lg_cmp_eq, Bool.false_eq_true, Bool.true_eq_false, reduceCtorEq, false_iff, true_iff, iff_true, iff_false, and_true, true_and, and_false, false_and, reduceIte, ite_true, ite_false, eq_self] at *)) <;> omega) (by ((try simp only [vp_in_iff, Int32.lt_iff_toInt_lt, Int32.le_iff_toInt_le, ← Int32.toInt_inj, Int32.reduceToInt, n_1, n_2, n_8, Int32.toNatClampNeg, Int64.lt_iff_toInt_lt, Int64.le_iff_toInt_le, ← Int64.toInt_inj, Int64.reduceToInt, Int32.toInt_toInt64, lg_cmp_ge, lg_cmp_le, lg_cmp_gt, lg_cmp_lt, lg_cmp_eq, Bool.false_eq_true, Bool.true_eq_false, reduceCtorEq, false_iff, true_iff, iff_true, iff_false, and_true, true_and, and_false, false_and, reduceIte, ite_true, ite_false, eq_self] at *)) <;> omega) (by ((try simp only [vp_in_iff, Int32.lt_iff_toInt_lt, Int32.le_iff_toInt_le, ← Int32.toInt_inj, Int32.reduceToInt, n_1, n_2, n_8, Int32.toNatClampNeg, Int64.lt_iff_toInt_lt, Int64.le_iff_toInt_le, ← Int64.toInt_inj, Int64.reduceToInt, Int32.toInt_toInt64, lg_cmp_ge, lg_cmp_le, lg_cmp_gt, lg_cmp_lt, lg_cmp_eq, Bool.false_eq_true, Bool.true_eq_false, reduceCtorEq, false_iff, true_iff, iff_true, iff_false, and_true, true_and, and_false, false_and, reduceIte, ite_true, ite_false, eq_self] at *)) <;> omega) (by ((try simp only [vp_in_iff, Int32.lt_iff_toInt_lt, Int32.le_iff_toInt_le, ← Int32.toInt_inj, Int32.reduceToInt, n_1, n_2, n_8, Int32.toNatClampNeg, Int64.lt_iff_toInt_lt, Int64.le_iff_toInt_le, ← Int64.toInt_inj, Int64.reduceToInt, Int32.toInt_toInt64, lg_cmp_ge, lg_cmp_le, lg_cmp_gt, lg_cmp_lt, lg_cmp_eq, Bool.false_eq_true, Bool.true_eq_false, reduceCtorEq, false_iff, true_iff, iff_true, iff_false, and_true, true_and, and_false, false_and, reduceIte, ite_true, ite_false, eq_self] at *)) <;> omega) (by ((try simp only [vp_in_iff, Int32.lt_iff_toInt_lt, Int32.le_iff_toInt_le, ← Int32.toInt_inj, Int32.reduceToInt, n_1, n_2, n_8, Int32.toNatClampNeg, Int64.lt_iff_toInt_lt, Int64.le_iff_toInt_le, ← Int64.toInt_inj, Int64.reduceToInt, Int32.toInt_toInt64, lg_cmp_ge, lg_cmp_le, lg_cmp_gt, lg_cmp_lt, lg_cmp_eq, Bool.false_eq_true, Bool.true_eq_false, reduceCtorEq, false_iff, true_iff, iff_true, iff_false, and_true, true_and, and_false, false_and, reduceIte, ite_true, ite_false, eq_self] at *)) <;> omega) (by ((try simp only [vp_in_iff, Int32.lt_iff_toInt_lt, Int32.le_iff_toInt_le, ← Int32.toInt_inj, Int32.reduceToInt, n_1, n_2, n_8, Int32.toNatClampNeg, Int64.lt_iff_toInt_lt, Int64.le_iff_toInt_le, ← Int64.toInt_inj, Int64.reduceToInt, Int32.toInt_toInt64, lg_cmp_ge, lg_cmp_le, lg_cmp_gt, lg_cmp_lt, lg_cmp_eq, Bool.false_eq_true, Bool.true_eq_false, reduceCtorEq, false_iff, true_iff, iff_true, iff_false, and_true, true_and, and_false, false_and, reduceIte, ite_true, ite_false, eq_self] at *)) <;> omega)) A_134 A_156 P_WKS) (rfl) rfl rfl (zr (by omega)) mk_X12_isLit ly_84 ml_12_940 (Nat.le_of_ble_eq_true rfl) (fun x17 s16 hs16 => ?_)
                obtain ⟨bx17, ex17, zs16, -⟩ := pB hs16
                subst ex17
                subst zs16
                refine wa_if_eq o_X12_isLeaf_116 (by decide) (fun h18 => ?_) (fun h18 => ?_)
                · replace h18 := bI_f (b := bx17) (rfl) h18
                  refine wa_iconst (v := 0) (by decide) ?_
                  refine wa_istoreD (lv' := [(5, .int (bI false)), (0, .ref 84), (1, .int a0), (2, .int a1), (3, .int l3), (4, .int (bI l4))]) (by decide) rfl ?_
                  refine wa_iload rfl ?_
                  refine wa_aload_n (i := 0) rfl rfl ?_
                  refine wa_getr ck_12 fl_12_123 ly_84 rf_84_46 ?_
                  refine wa_iload_n (i := 2) rfl rfl ?_
                  refine wa_iald ly_193 (by ((try simp only [vp_in_iff, Int32.lt_iff_toInt_lt, Int32.le_iff_toInt_le, ← Int32.toInt_inj, Int32.reduceToInt, n_1, n_2, n_8, Int32.toNatClampNeg, Int64.lt_iff_toInt_lt, Int64.le_iff_toInt_le, ← Int64.toInt_inj, Int64.reduceToInt, Int32.toInt_toInt64, lg_cmp_ge, lg_cmp_le, lg_cmp_gt, lg_cmp_lt, lg_cmp_eq, Bool.false_eq_true, Bool.true_eq_false, reduceCtorEq, false_iff, true_iff, iff_true, iff_false, and_true, true_and, and_false, false_and, reduceIte, ite_true, ite_false, eq_self] at *)) <;> omega) ?_
                  refine wa_bipush (v := 15) (by decide) ?_
                  refine wa_icmp_ne o_X12_isLeaf_136 (by decide) (fun h19 => ?_) (fun h19 => ?_)
                  · refine wa_iconst (v := 0) (by decide) ?_
                    refine wa_icmp_eq o_X12_isLeaf_142 (by decide) (fun h20 => ?_) (fun h20 => ?_)
                    · refine wa_iinc (v := (1)) (lv' := fun y21 => [(3, .int y21), (5, .int (bI false)), (0, .ref 84), (1, .int a0), (2, .int a1), (4, .int (bI l4))]) (by decide) rfl (by decide) (fun _ => rfl) (fun y21 hy21 => ?_)
                      have ty21 := i_addT hy21.symm
                      clear hy21
                      refine wa_goto o_X12_isLeaf_7 (by decide) ?_
                      refine wa_pick [2, 3, 4, 0] rfl ?_
                      exact ih2 _ (by ((try simp only [vp_in_iff, Int32.lt_iff_toInt_lt, Int32.le_iff_toInt_le, ← Int32.toInt_inj, Int32.reduceToInt, n_1, n_2, n_8, Int32.toNatClampNeg, Int64.lt_iff_toInt_lt, Int64.le_iff_toInt_le, ← Int64.toInt_inj, Int64.reduceToInt, Int32.toInt_toInt64, lg_cmp_ge, lg_cmp_le, lg_cmp_gt, lg_cmp_lt, lg_cmp_eq, Bool.false_eq_true, Bool.true_eq_false, reduceCtorEq, false_iff, true_iff, iff_true, iff_false, and_true, true_and, and_false, false_and, reduceIte, ite_true, ite_false, eq_self] at *)) <;> omega) _ ⟨(by ((try simp only [vp_in_iff, Int32.lt_iff_toInt_lt, Int32.le_iff_toInt_le, ← Int32.toInt_inj, Int32.reduceToInt, n_1, n_2, n_8, Int32.toNatClampNeg, Int64.lt_iff_toInt_lt, Int64.le_iff_toInt_le, ← Int64.toInt_inj, Int64.reduceToInt, Int32.toInt_toInt64, lg_cmp_ge, lg_cmp_le, lg_cmp_gt, lg_cmp_lt, lg_cmp_eq, Bool.false_eq_true, Bool.true_eq_false, reduceCtorEq, false_iff, true_iff, iff_true, iff_false, and_true, true_and, and_false, false_and, reduceIte, ite_true, ite_false, eq_self] at *)) <;> omega), trivial⟩ rfl
                    · refine wa_iconst (v := 1) (by decide) ?_
                      refine wa_zreturn true (rfl) rfl rfl ?_
                      exact ⟨_, rfl, rfl, trivial⟩
                  · refine wa_iconst (v := 1) (by decide) ?_
                    refine wa_goto o_X12_isLeaf_137 (by decide) ?_
                    refine wa_icmp_eq o_X12_isLeaf_142 (by decide) (fun h22 => ?_) (fun h22 => ?_)
                    · refine wa_iinc (v := (1)) (lv' := fun y23 => [(3, .int y23), (5, .int (bI false)), (0, .ref 84), (1, .int a0), (2, .int a1), (4, .int (bI l4))]) (by decide) rfl (by decide) (fun _ => rfl) (fun y23 hy23 => ?_)
                      have ty23 := i_addT hy23.symm
                      clear hy23
                      refine wa_goto o_X12_isLeaf_7 (by decide) ?_
                      refine wa_pick [2, 3, 4, 0] rfl ?_
                      exact ih2 _ (by ((try simp only [vp_in_iff, Int32.lt_iff_toInt_lt, Int32.le_iff_toInt_le, ← Int32.toInt_inj, Int32.reduceToInt, n_1, n_2, n_8, Int32.toNatClampNeg, Int64.lt_iff_toInt_lt, Int64.le_iff_toInt_le, ← Int64.toInt_inj, Int64.reduceToInt, Int32.toInt_toInt64, lg_cmp_ge, lg_cmp_le, lg_cmp_gt, lg_cmp_lt, lg_cmp_eq, Bool.false_eq_true, Bool.true_eq_false, reduceCtorEq, false_iff, true_iff, iff_true, iff_false, and_true, true_and, and_false, false_and, reduceIte, ite_true, ite_false, eq_self] at *)) <;> omega) _ ⟨(by ((try simp only [vp_in_iff, Int32.lt_iff_toInt_lt, Int32.le_iff_toInt_le, ← Int32.toInt_inj, Int32.reduceToInt, n_1, n_2, n_8, Int32.toNatClampNeg, Int64.lt_iff_toInt_lt, Int64.le_iff_toInt_le, ← Int64.toInt_inj, Int64.reduceToInt, Int32.toInt_toInt64, lg_cmp_ge, lg_cmp_le, lg_cmp_gt, lg_cmp_lt, lg_cmp_eq, Bool.false_eq_true, Bool.true_eq_false, reduceCtorEq, false_iff, true_iff, iff_true, iff_false, and_true, true_and, and_false, false_and, reduceIte, ite_true, ite_false, eq_self] at *)) <;> omega), trivial⟩ rfl
                    · refine wa_iconst (v := 1) (by decide) ?_
                      refine wa_zreturn true (rfl) rfl rfl ?_
                      exact ⟨_, rfl, rfl, trivial⟩
                · replace h18 := bI_t (b := bx17) (rfl) h18
                  refine wa_aload_n (i := 0) rfl rfl ?_
                  refine wa_iload_n (i := 1) rfl rfl ?_
                  refine wa_aload_n (i := 0) rfl rfl ?_
                  refine wa_getr ck_12 fl_12_238 ly_84 rf_84_90 ?_
                  refine wa_bipush (v := 8) (by decide) ?_
                  refine wa_iload_n (i := 3) rfl rfl ?_
                  refine wa_imul ?_
                  refine wa_top (fun v24 hv24 => ?_)
                  have tv24 := i_mulT hv24
                  clear hv24
                  refine wa_bipush (v := 7) (by decide) ?_
                  refine wa_iadd ?_
                  refine wa_top (fun v25 hv25 => ?_)
                  have tv25 := i_addT hv25
                  clear hv25
                  refine wa_iald ly_155 (by ((try simp only [vp_in_iff, Int32.lt_iff_toInt_lt, Int32.le_iff_toInt_le, ← Int32.toInt_inj, Int32.reduceToInt, n_1, n_2, n_8, Int32.toNatClampNeg, Int64.lt_iff_toInt_lt, Int64.le_iff_toInt_le, ← Int64.toInt_inj, Int64.reduceToInt, Int32.toInt_toInt64, lg_cmp_ge, lg_cmp_le, lg_cmp_gt, lg_cmp_lt, lg_cmp_eq, Bool.false_eq_true, Bool.true_eq_false, reduceCtorEq, false_iff, true_iff, iff_true, iff_false, and_true, true_and, and_false, false_and, reduceIte, ite_true, ite_false, eq_self] at *)) <;> omega) ?_
                  refine wa_top (fun v26 hv26 => ?_)
                  have rv26 : -2 ≤ v26.toInt ∧ v26.toInt ≤ 47 := by rw [← hv26]; exact ar_at A_155 _
                  have qv26 := hv26
                  clear hv26
                  refine wa_Vi (d9 := d - 1) [.int _, .int _] [] (sp_X12_isLit G (d := d - 1) (by omega) σ _ _ (by ((try simp only [vp_in_iff, Int32.lt_iff_toInt_lt, Int32.le_iff_toInt_le, ← Int32.toInt_inj, Int32.reduceToInt, n_1, n_2, n_8, Int32.toNatClampNeg, Int64.lt_iff_toInt_lt, Int64.le_iff_toInt_le, ← Int64.toInt_inj, Int64.reduceToInt, Int32.toInt_toInt64, lg_cmp_ge, lg_cmp_le, lg_cmp_gt, lg_cmp_lt, lg_cmp_eq, Bool.false_eq_true, Bool.true_eq_false, reduceCtorEq, false_iff, true_iff, iff_true, iff_false, and_true, true_and, and_false, false_and, reduceIte, ite_true, ite_false, eq_self] at *)) <;> omega) (by assumption) (cli_lt P_CLI (s := (a0).toNatClampNeg) (l := (a1).toNatClampNeg) (c := (l3).toNatClampNeg) (i := 7) (by assumption) (by ((try simp only [vp_in_iff, Int32.lt_iff_toInt_lt, Int32.le_iff_toInt_le, ← Int32.toInt_inj, Int32.reduceToInt, n_1, n_2, n_8, Int32.toNatClampNeg, Int64.lt_iff_toInt_lt, Int64.le_iff_toInt_le, ← Int64.toInt_inj, Int64.reduceToInt, Int32.toInt_toInt64, lg_cmp_ge, lg_cmp_le, lg_cmp_gt, lg_cmp_lt, lg_cmp_eq, Bool.false_eq_true, Bool.true_eq_false, reduceCtorEq, false_iff, true_iff, iff_true, iff_false, and_true, true_and, and_false, false_and, reduceIte, ite_true, ite_false, eq_self] at *)) <;> omega) (by ((try simp only [vp_in_iff, Int32.lt_iff_toInt_lt, Int32.le_iff_toInt_le, ← Int32.toInt_inj, Int32.reduceToInt, n_1, n_2, n_8, Int32.toNatClampNeg, Int64.lt_iff_toInt_lt, Int64.le_iff_toInt_le, ← Int64.toInt_inj, Int64.reduceToInt, Int32.toInt_toInt64, lg_cmp_ge, lg_cmp_le, lg_cmp_gt, lg_cmp_lt, lg_cmp_eq, Bool.false_eq_true, Bool.true_eq_false, reduceCtorEq, false_iff, true_iff, iff_true, iff_false, and_true, true_and, and_false, false_and, reduceIte, ite_true, ite_false, eq_self] at *)) <;> omega) (by ((try simp only [vp_in_iff, Int32.lt_iff_toInt_lt, Int32.le_iff_toInt_le, ← Int32.toInt_inj, Int32.reduceToInt, n_1, n_2, n_8, Int32.toNatClampNeg, Int64.lt_iff_toInt_lt, Int64.le_iff_toInt_le, ← Int64.toInt_inj, Int64.reduceToInt, Int32.toInt_toInt64, lg_cmp_ge, lg_cmp_le, lg_cmp_gt, lg_cmp_lt, lg_cmp_eq, Bool.false_eq_true, Bool.true_eq_false, reduceCtorEq, false_iff, true_iff, iff_true, iff_false, and_true, true_and, and_false, false_and, reduceIte, ite_true, ite_false, eq_self] at *)) <;> omega) (by ((try simp only [vp_in_iff, Int32.lt_iff_toInt_lt, Int32.le_iff_toInt_le, ← Int32.toInt_inj, Int32.reduceToInt, n_1, n_2, n_8, Int32.toNatClampNeg, Int64.lt_iff_toInt_lt, Int64.le_iff_toInt_le, ← Int64.toInt_inj, Int64.reduceToInt, Int32.toInt_toInt64, lg_cmp_ge, lg_cmp_le, lg_cmp_gt, lg_cmp_lt, lg_cmp_eq, Bool.false_eq_true, Bool.true_eq_false, reduceCtorEq, false_iff, true_iff, iff_true, iff_false, and_true, true_and, and_false, false_and, reduceIte, ite_true, ite_false, eq_self] at *)) <;> omega) (by ((try simp only [vp_in_iff, Int32.lt_iff_toInt_lt, Int32.le_iff_toInt_le, ← Int32.toInt_inj, Int32.reduceToInt, n_1, n_2, n_8, Int32.toNatClampNeg, Int64.lt_iff_toInt_lt, Int64.le_iff_toInt_le, ← Int64.toInt_inj, Int64.reduceToInt, Int32.toInt_toInt64, lg_cmp_ge, lg_cmp_le, lg_cmp_gt, lg_cmp_lt, lg_cmp_eq, Bool.false_eq_true, Bool.true_eq_false, reduceCtorEq, false_iff, true_iff, iff_true, iff_false, and_true, true_and, and_false, false_and, reduceIte, ite_true, ite_false, eq_self] at *)) <;> omega) (by ((try simp only [vp_in_iff, Int32.lt_iff_toInt_lt, Int32.le_iff_toInt_le, ← Int32.toInt_inj, Int32.reduceToInt, n_1, n_2, n_8, Int32.toNatClampNeg, Int64.lt_iff_toInt_lt, Int64.le_iff_toInt_le, ← Int64.toInt_inj, Int64.reduceToInt, Int32.toInt_toInt64, lg_cmp_ge, lg_cmp_le, lg_cmp_gt, lg_cmp_lt, lg_cmp_eq, Bool.false_eq_true, Bool.true_eq_false, reduceCtorEq, false_iff, true_iff, iff_true, iff_false, and_true, true_and, and_false, false_and, reduceIte, ite_true, ite_false, eq_self] at *)) <;> omega) (by ((try simp only [vp_in_iff, Int32.lt_iff_toInt_lt, Int32.le_iff_toInt_le, ← Int32.toInt_inj, Int32.reduceToInt, n_1, n_2, n_8, Int32.toNatClampNeg, Int64.lt_iff_toInt_lt, Int64.le_iff_toInt_le, ← Int64.toInt_inj, Int64.reduceToInt, Int32.toInt_toInt64, lg_cmp_ge, lg_cmp_le, lg_cmp_gt, lg_cmp_lt, lg_cmp_eq, Bool.false_eq_true, Bool.true_eq_false, reduceCtorEq, false_iff, true_iff, iff_true, iff_false, and_true, true_and, and_false, false_and, reduceIte, ite_true, ite_false, eq_self] at *)) <;> omega)) A_134 A_156 P_WKS) (rfl) rfl rfl (zr (by omega)) mk_X12_isLit ly_84 ml_12_940 (Nat.le_of_ble_eq_true rfl) (fun x28 s27 hs27 => ?_)
                  obtain ⟨bx28, ex28, zs27, -⟩ := pB hs27
                  subst ex28
                  subst zs27
                  refine wa_if_eq o_X12_isLeaf_116 (by decide) (fun h29 => ?_) (fun h29 => ?_)
                  · replace h29 := bI_f (b := bx28) (rfl) h29
                    refine wa_iconst (v := 0) (by decide) ?_
                    refine wa_istoreD (lv' := [(5, .int (bI false)), (0, .ref 84), (1, .int a0), (2, .int a1), (3, .int l3), (4, .int (bI l4))]) (by decide) rfl ?_
                    refine wa_iload rfl ?_
                    refine wa_aload_n (i := 0) rfl rfl ?_
                    refine wa_getr ck_12 fl_12_123 ly_84 rf_84_46 ?_
                    refine wa_iload_n (i := 2) rfl rfl ?_
                    refine wa_iald ly_193 (by ((try simp only [vp_in_iff, Int32.lt_iff_toInt_lt, Int32.le_iff_toInt_le, ← Int32.toInt_inj, Int32.reduceToInt, n_1, n_2, n_8, Int32.toNatClampNeg, Int64.lt_iff_toInt_lt, Int64.le_iff_toInt_le, ← Int64.toInt_inj, Int64.reduceToInt, Int32.toInt_toInt64, lg_cmp_ge, lg_cmp_le, lg_cmp_gt, lg_cmp_lt, lg_cmp_eq, Bool.false_eq_true, Bool.true_eq_false, reduceCtorEq, false_iff, true_iff, iff_true, iff_false, and_true, true_and, and_false, false_and, reduceIte, ite_true, ite_false, eq_self] at *)) <;> omega) ?_
                    refine wa_bipush (v := 15) (by decide) ?_
                    refine wa_icmp_ne o_X12_isLeaf_136 (by decide) (fun h30 => ?_) (fun h30 => ?_)
                    · refine wa_iconst (v := 0) (by decide) ?_
                      refine wa_icmp_eq o_X12_isLeaf_142 (by decide) (fun h31 => ?_) (fun h31 => ?_)
                      · refine wa_iinc (v := (1)) (lv' := fun y32 => [(3, .int y32), (5, .int (bI false)), (0, .ref 84), (1, .int a0), (2, .int a1), (4, .int (bI l4))]) (by decide) rfl (by decide) (fun _ => rfl) (fun y32 hy32 => ?_)
                        have ty32 := i_addT hy32.symm
                        clear hy32
                        refine wa_goto o_X12_isLeaf_7 (by decide) ?_
                        refine wa_pick [2, 3, 4, 0] rfl ?_
                        exact ih2 _ (by ((try simp only [vp_in_iff, Int32.lt_iff_toInt_lt, Int32.le_iff_toInt_le, ← Int32.toInt_inj, Int32.reduceToInt, n_1, n_2, n_8, Int32.toNatClampNeg, Int64.lt_iff_toInt_lt, Int64.le_iff_toInt_le, ← Int64.toInt_inj, Int64.reduceToInt, Int32.toInt_toInt64, lg_cmp_ge, lg_cmp_le, lg_cmp_gt, lg_cmp_lt, lg_cmp_eq, Bool.false_eq_true, Bool.true_eq_false, reduceCtorEq, false_iff, true_iff, iff_true, iff_false, and_true, true_and, and_false, false_and, reduceIte, ite_true, ite_false, eq_self] at *)) <;> omega) _ ⟨(by ((try simp only [vp_in_iff, Int32.lt_iff_toInt_lt, Int32.le_iff_toInt_le, ← Int32.toInt_inj, Int32.reduceToInt, n_1, n_2, n_8, Int32.toNatClampNeg, Int64.lt_iff_toInt_lt, Int64.le_iff_toInt_le, ← Int64.toInt_inj, Int64.reduceToInt, Int32.toInt_toInt64, lg_cmp_ge, lg_cmp_le, lg_cmp_gt, lg_cmp_lt, lg_cmp_eq, Bool.false_eq_true, Bool.true_eq_false, reduceCtorEq, false_iff, true_iff, iff_true, iff_false, and_true, true_and, and_false, false_and, reduceIte, ite_true, ite_false, eq_self] at *)) <;> omega), trivial⟩ rfl
                      · refine wa_iconst (v := 1) (by decide) ?_
                        refine wa_zreturn true (rfl) rfl rfl ?_
                        exact ⟨_, rfl, rfl, trivial⟩
                    · refine wa_iconst (v := 1) (by decide) ?_
                      refine wa_goto o_X12_isLeaf_137 (by decide) ?_
                      refine wa_icmp_eq o_X12_isLeaf_142 (by decide) (fun h33 => ?_) (fun h33 => ?_)
                      · refine wa_iinc (v := (1)) (lv' := fun y34 => [(3, .int y34), (5, .int (bI false)), (0, .ref 84), (1, .int a0), (2, .int a1), (4, .int (bI l4))]) (by decide) rfl (by decide) (fun _ => rfl) (fun y34 hy34 => ?_)
                        have ty34 := i_addT hy34.symm
                        clear hy34
                        refine wa_goto o_X12_isLeaf_7 (by decide) ?_
                        refine wa_pick [2, 3, 4, 0] rfl ?_
                        exact ih2 _ (by ((try simp only [vp_in_iff, Int32.lt_iff_toInt_lt, Int32.le_iff_toInt_le, ← Int32.toInt_inj, Int32.reduceToInt, n_1, n_2, n_8, Int32.toNatClampNeg, Int64.lt_iff_toInt_lt, Int64.le_iff_toInt_le, ← Int64.toInt_inj, Int64.reduceToInt, Int32.toInt_toInt64, lg_cmp_ge, lg_cmp_le, lg_cmp_gt, lg_cmp_lt, lg_cmp_eq, Bool.false_eq_true, Bool.true_eq_false, reduceCtorEq, false_iff, true_iff, iff_true, iff_false, and_true, true_and, and_false, false_and, reduceIte, ite_true, ite_false, eq_self] at *)) <;> omega) _ ⟨(by ((try simp only [vp_in_iff, Int32.lt_iff_toInt_lt, Int32.le_iff_toInt_le, ← Int32.toInt_inj, Int32.reduceToInt, n_1, n_2, n_8, Int32.toNatClampNeg, Int64.lt_iff_toInt_lt, Int64.le_iff_toInt_le, ← Int64.toInt_inj, Int64.reduceToInt, Int32.toInt_toInt64, lg_cmp_ge, lg_cmp_le, lg_cmp_gt, lg_cmp_lt, lg_cmp_eq, Bool.false_eq_true, Bool.true_eq_false, reduceCtorEq, false_iff, true_iff, iff_true, iff_false, and_true, true_and, and_false, false_and, reduceIte, ite_true, ite_false, eq_self] at *)) <;> omega), trivial⟩ rfl
                      · refine wa_iconst (v := 1) (by decide) ?_
                        refine wa_zreturn true (rfl) rfl rfl ?_
                        exact ⟨_, rfl, rfl, trivial⟩
                  · replace h29 := bI_t (b := bx28) (rfl) h29
                    refine wa_iconst (v := 1) (by decide) ?_
                    refine wa_goto o_X12_isLeaf_117 (by decide) ?_
                    refine wa_istoreD (lv' := [(5, .int (bI true)), (0, .ref 84), (1, .int a0), (2, .int a1), (3, .int l3), (4, .int (bI l4))]) (by decide) rfl ?_
                    refine wa_iload rfl ?_
                    refine wa_aload_n (i := 0) rfl rfl ?_
                    refine wa_getr ck_12 fl_12_123 ly_84 rf_84_46 ?_
                    refine wa_iload_n (i := 2) rfl rfl ?_
                    refine wa_iald ly_193 (by ((try simp only [vp_in_iff, Int32.lt_iff_toInt_lt, Int32.le_iff_toInt_le, ← Int32.toInt_inj, Int32.reduceToInt, n_1, n_2, n_8, Int32.toNatClampNeg, Int64.lt_iff_toInt_lt, Int64.le_iff_toInt_le, ← Int64.toInt_inj, Int64.reduceToInt, Int32.toInt_toInt64, lg_cmp_ge, lg_cmp_le, lg_cmp_gt, lg_cmp_lt, lg_cmp_eq, Bool.false_eq_true, Bool.true_eq_false, reduceCtorEq, false_iff, true_iff, iff_true, iff_false, and_true, true_and, and_false, false_and, reduceIte, ite_true, ite_false, eq_self] at *)) <;> omega) ?_
                    refine wa_bipush (v := 15) (by decide) ?_
                    refine wa_icmp_ne o_X12_isLeaf_136 (by decide) (fun h35 => ?_) (fun h35 => ?_)
                    · refine wa_iconst (v := 0) (by decide) ?_
                      refine wa_icmp_eq o_X12_isLeaf_142 (by decide) (fun h36 => ?_) (fun h36 => ?_)
                      · refine wa_iinc (v := (1)) (lv' := fun y37 => [(3, .int y37), (5, .int (bI true)), (0, .ref 84), (1, .int a0), (2, .int a1), (4, .int (bI l4))]) (by decide) rfl (by decide) (fun _ => rfl) (fun y37 hy37 => ?_)
                        have ty37 := i_addT hy37.symm
                        clear hy37
                        refine wa_goto o_X12_isLeaf_7 (by decide) ?_
                        refine wa_pick [2, 3, 4, 0] rfl ?_
                        exact ih2 _ (by ((try simp only [vp_in_iff, Int32.lt_iff_toInt_lt, Int32.le_iff_toInt_le, ← Int32.toInt_inj, Int32.reduceToInt, n_1, n_2, n_8, Int32.toNatClampNeg, Int64.lt_iff_toInt_lt, Int64.le_iff_toInt_le, ← Int64.toInt_inj, Int64.reduceToInt, Int32.toInt_toInt64, lg_cmp_ge, lg_cmp_le, lg_cmp_gt, lg_cmp_lt, lg_cmp_eq, Bool.false_eq_true, Bool.true_eq_false, reduceCtorEq, false_iff, true_iff, iff_true, iff_false, and_true, true_and, and_false, false_and, reduceIte, ite_true, ite_false, eq_self] at *)) <;> omega) _ ⟨(by ((try simp only [vp_in_iff, Int32.lt_iff_toInt_lt, Int32.le_iff_toInt_le, ← Int32.toInt_inj, Int32.reduceToInt, n_1, n_2, n_8, Int32.toNatClampNeg, Int64.lt_iff_toInt_lt, Int64.le_iff_toInt_le, ← Int64.toInt_inj, Int64.reduceToInt, Int32.toInt_toInt64, lg_cmp_ge, lg_cmp_le, lg_cmp_gt, lg_cmp_lt, lg_cmp_eq, Bool.false_eq_true, Bool.true_eq_false, reduceCtorEq, false_iff, true_iff, iff_true, iff_false, and_true, true_and, and_false, false_and, reduceIte, ite_true, ite_false, eq_self] at *)) <;> omega), trivial⟩ rfl
                      · refine wa_iconst (v := 1) (by decide) ?_
                        refine wa_zreturn true (rfl) rfl rfl ?_
                        exact ⟨_, rfl, rfl, trivial⟩
                    · refine wa_iconst (v := 1) (by decide) ?_
                      refine wa_goto o_X12_isLeaf_137 (by decide) ?_
                      refine wa_icmp_eq o_X12_isLeaf_142 (by decide) (fun h38 => ?_) (fun h38 => ?_)
                      · refine wa_iinc (v := (1)) (lv' := fun y39 => [(3, .int y39), (5, .int (bI true)), (0, .ref 84), (1, .int a0), (2, .int a1), (4, .int (bI l4))]) (by decide) rfl (by decide) (fun _ => rfl) (fun y39 hy39 => ?_)
                        have ty39 := i_addT hy39.symm
                        clear hy39
                        refine wa_goto o_X12_isLeaf_7 (by decide) ?_
                        refine wa_pick [2, 3, 4, 0] rfl ?_
                        exact ih2 _ (by ((try simp only [vp_in_iff, Int32.lt_iff_toInt_lt, Int32.le_iff_toInt_le, ← Int32.toInt_inj, Int32.reduceToInt, n_1, n_2, n_8, Int32.toNatClampNeg, Int64.lt_iff_toInt_lt, Int64.le_iff_toInt_le, ← Int64.toInt_inj, Int64.reduceToInt, Int32.toInt_toInt64, lg_cmp_ge, lg_cmp_le, lg_cmp_gt, lg_cmp_lt, lg_cmp_eq, Bool.false_eq_true, Bool.true_eq_false, reduceCtorEq, false_iff, true_iff, iff_true, iff_false, and_true, true_and, and_false, false_and, reduceIte, ite_true, ite_false, eq_self] at *)) <;> omega) _ ⟨(by ((try simp only [vp_in_iff, Int32.lt_iff_toInt_lt, Int32.le_iff_toInt_le, ← Int32.toInt_inj, Int32.reduceToInt, n_1, n_2, n_8, Int32.toNatClampNeg, Int64.lt_iff_toInt_lt, Int64.le_iff_toInt_le, ← Int64.toInt_inj, Int64.reduceToInt, Int32.toInt_toInt64, lg_cmp_ge, lg_cmp_le, lg_cmp_gt, lg_cmp_lt, lg_cmp_eq, Bool.false_eq_true, Bool.true_eq_false, reduceCtorEq, false_iff, true_iff, iff_true, iff_false, and_true, true_and, and_false, false_and, reduceIte, ite_true, ite_false, eq_self] at *)) <;> omega), trivial⟩ rfl
                      · refine wa_iconst (v := 1) (by decide) ?_
                        refine wa_zreturn true (rfl) rfl rfl ?_
                        exact ⟨_, rfl, rfl, trivial⟩
            · have mh10 := nle_mx h10
              refine wa_iload rfl ?_
              refine wa_if_eq o_X12_isLeaf_67 (by decide) (fun h40 => ?_) (fun h40 => ?_)
              · replace h40 := bI_f (b := l4) (rfl) h40
                refine wa_iload rfl ?_
                refine wa_if_eq o_X12_isLeaf_142 (by decide) (fun h41 => ?_) (fun h41 => ?_)
                · replace h41 := bI_f (b := l4) (rfl) h41
                  refine wa_iinc (v := (1)) (lv' := fun y42 => [(3, .int y42), (0, .ref 84), (1, .int a0), (2, .int a1), (4, .int (bI l4)), (5, .int l5)]) (by decide) rfl (by decide) (fun _ => rfl) (fun y42 hy42 => ?_)
                  have ty42 := i_addT hy42.symm
                  clear hy42
                  refine wa_goto o_X12_isLeaf_7 (by decide) ?_
                  refine wa_pick [1, 2, 3, 0] rfl ?_
                  exact ih2 _ (by ((try simp only [vp_in_iff, Int32.lt_iff_toInt_lt, Int32.le_iff_toInt_le, ← Int32.toInt_inj, Int32.reduceToInt, n_1, n_2, n_8, Int32.toNatClampNeg, Int64.lt_iff_toInt_lt, Int64.le_iff_toInt_le, ← Int64.toInt_inj, Int64.reduceToInt, Int32.toInt_toInt64, lg_cmp_ge, lg_cmp_le, lg_cmp_gt, lg_cmp_lt, lg_cmp_eq, Bool.false_eq_true, Bool.true_eq_false, reduceCtorEq, false_iff, true_iff, iff_true, iff_false, and_true, true_and, and_false, false_and, reduceIte, ite_true, ite_false, eq_self] at *)) <;> omega) _ ⟨(by ((try simp only [vp_in_iff, Int32.lt_iff_toInt_lt, Int32.le_iff_toInt_le, ← Int32.toInt_inj, Int32.reduceToInt, n_1, n_2, n_8, Int32.toNatClampNeg, Int64.lt_iff_toInt_lt, Int64.le_iff_toInt_le, ← Int64.toInt_inj, Int64.reduceToInt, Int32.toInt_toInt64, lg_cmp_ge, lg_cmp_le, lg_cmp_gt, lg_cmp_lt, lg_cmp_eq, Bool.false_eq_true, Bool.true_eq_false, reduceCtorEq, false_iff, true_iff, iff_true, iff_false, and_true, true_and, and_false, false_and, reduceIte, ite_true, ite_false, eq_self] at *)) <;> omega), trivial⟩ rfl
                · replace h41 := bI_t (b := l4) (rfl) h41
                  refine wa_aload_n (i := 0) rfl rfl ?_
                  refine wa_iload_n (i := 1) rfl rfl ?_
                  refine wa_aload_n (i := 0) rfl rfl ?_
                  refine wa_getr ck_12 fl_12_238 ly_84 rf_84_90 ?_
                  refine wa_bipush (v := 8) (by decide) ?_
                  refine wa_iload_n (i := 3) rfl rfl ?_
                  refine wa_imul ?_
                  refine wa_top (fun v43 hv43 => ?_)
                  have tv43 := i_mulT hv43
                  clear hv43
                  refine wa_bipush (v := 6) (by decide) ?_
                  refine wa_iadd ?_
                  refine wa_top (fun v44 hv44 => ?_)
                  have tv44 := i_addT hv44
                  clear hv44
                  refine wa_iald ly_155 (by ((try simp only [vp_in_iff, Int32.lt_iff_toInt_lt, Int32.le_iff_toInt_le, ← Int32.toInt_inj, Int32.reduceToInt, n_1, n_2, n_8, Int32.toNatClampNeg, Int64.lt_iff_toInt_lt, Int64.le_iff_toInt_le, ← Int64.toInt_inj, Int64.reduceToInt, Int32.toInt_toInt64, lg_cmp_ge, lg_cmp_le, lg_cmp_gt, lg_cmp_lt, lg_cmp_eq, Bool.false_eq_true, Bool.true_eq_false, reduceCtorEq, false_iff, true_iff, iff_true, iff_false, and_true, true_and, and_false, false_and, reduceIte, ite_true, ite_false, eq_self] at *)) <;> omega) ?_
                  refine wa_top (fun v45 hv45 => ?_)
                  have rv45 : -2 ≤ v45.toInt ∧ v45.toInt ≤ 47 := by rw [← hv45]; exact ar_at A_155 _
                  have qv45 := hv45
                  clear hv45
                  refine wa_Vi (d9 := d - 1) [.int _, .int _] [] (sp_X12_isLit G (d := d - 1) (by omega) σ _ _ (by ((try simp only [vp_in_iff, Int32.lt_iff_toInt_lt, Int32.le_iff_toInt_le, ← Int32.toInt_inj, Int32.reduceToInt, n_1, n_2, n_8, Int32.toNatClampNeg, Int64.lt_iff_toInt_lt, Int64.le_iff_toInt_le, ← Int64.toInt_inj, Int64.reduceToInt, Int32.toInt_toInt64, lg_cmp_ge, lg_cmp_le, lg_cmp_gt, lg_cmp_lt, lg_cmp_eq, Bool.false_eq_true, Bool.true_eq_false, reduceCtorEq, false_iff, true_iff, iff_true, iff_false, and_true, true_and, and_false, false_and, reduceIte, ite_true, ite_false, eq_self] at *)) <;> omega) (by assumption) (cli_lt P_CLI (s := (a0).toNatClampNeg) (l := (a1).toNatClampNeg) (c := (l3).toNatClampNeg) (i := 6) (by assumption) (by ((try simp only [vp_in_iff, Int32.lt_iff_toInt_lt, Int32.le_iff_toInt_le, ← Int32.toInt_inj, Int32.reduceToInt, n_1, n_2, n_8, Int32.toNatClampNeg, Int64.lt_iff_toInt_lt, Int64.le_iff_toInt_le, ← Int64.toInt_inj, Int64.reduceToInt, Int32.toInt_toInt64, lg_cmp_ge, lg_cmp_le, lg_cmp_gt, lg_cmp_lt, lg_cmp_eq, Bool.false_eq_true, Bool.true_eq_false, reduceCtorEq, false_iff, true_iff, iff_true, iff_false, and_true, true_and, and_false, false_and, reduceIte, ite_true, ite_false, eq_self] at *)) <;> omega) (by ((try simp only [vp_in_iff, Int32.lt_iff_toInt_lt, Int32.le_iff_toInt_le, ← Int32.toInt_inj, Int32.reduceToInt, n_1, n_2, n_8, Int32.toNatClampNeg, Int64.lt_iff_toInt_lt, Int64.le_iff_toInt_le, ← Int64.toInt_inj, Int64.reduceToInt, Int32.toInt_toInt64, lg_cmp_ge, lg_cmp_le, lg_cmp_gt, lg_cmp_lt, lg_cmp_eq, Bool.false_eq_true, Bool.true_eq_false, reduceCtorEq, false_iff, true_iff, iff_true, iff_false, and_true, true_and, and_false, false_and, reduceIte, ite_true, ite_false, eq_self] at *)) <;> omega) (by ((try simp only [vp_in_iff, Int32.lt_iff_toInt_lt, Int32.le_iff_toInt_le, ← Int32.toInt_inj, Int32.reduceToInt, n_1, n_2, n_8, Int32.toNatClampNeg, Int64.lt_iff_toInt_lt, Int64.le_iff_toInt_le, ← Int64.toInt_inj, Int64.reduceToInt, Int32.toInt_toInt64, lg_cmp_ge, lg_cmp_le, lg_cmp_gt, lg_cmp_lt, lg_cmp_eq, Bool.false_eq_true, Bool.true_eq_false, reduceCtorEq, false_iff, true_iff, iff_true, iff_false, and_true, true_and, and_false, false_and, reduceIte, ite_true, ite_false, eq_self] at *)) <;> omega) (by ((try simp only [vp_in_iff, Int32.lt_iff_toInt_lt, Int32.le_iff_toInt_le, ← Int32.toInt_inj, Int32.reduceToInt, n_1, n_2, n_8, Int32.toNatClampNeg, Int64.lt_iff_toInt_lt, Int64.le_iff_toInt_le, ← Int64.toInt_inj, Int64.reduceToInt, Int32.toInt_toInt64, lg_cmp_ge, lg_cmp_le, lg_cmp_gt, lg_cmp_lt, lg_cmp_eq, Bool.false_eq_true, Bool.true_eq_false, reduceCtorEq, false_iff, true_iff, iff_true, iff_false, and_true, true_and, and_false, false_and, reduceIte, ite_true, ite_false, eq_self] at *)) <;> omega) (by ((try simp only [vp_in_iff, Int32.lt_iff_toInt_lt, Int32.le_iff_toInt_le, ← Int32.toInt_inj, Int32.reduceToInt, n_1, n_2, n_8, Int32.toNatClampNeg, Int64.lt_iff_toInt_lt, Int64.le_iff_toInt_le, ← Int64.toInt_inj, Int64.reduceToInt, Int32.toInt_toInt64, lg_cmp_ge, lg_cmp_le, lg_cmp_gt, lg_cmp_lt, lg_cmp_eq, Bool.false_eq_true, Bool.true_eq_false, reduceCtorEq, false_iff, true_iff, iff_true, iff_false, and_true, true_and, and_false, false_and, reduceIte, ite_true, ite_false, eq_self] at *)) <;> omega) (by ((try simp only [vp_in_iff, Int32.lt_iff_toInt_lt, Int32.le_iff_toInt_le, ← Int32.toInt_inj, Int32.reduceToInt, n_1, n_2, n_8, Int32.toNatClampNeg, Int64.lt_iff_toInt_lt, Int64.le_iff_toInt_le, ← Int64.toInt_inj, Int64.reduceToInt, Int32.toInt_toInt64, lg_cmp_ge, lg_cmp_le, lg_cmp_gt, lg_cmp_lt, lg_cmp_eq, Bool.false_eq_true, Bool.true_eq_false, reduceCtorEq, false_iff, true_iff, iff_true, iff_false, and_true, true_and, and_false, false_and, reduceIte, ite_true, ite_false, eq_self] at *)) <;> omega) (by ((try simp only [vp_in_iff, Int32.lt_iff_toInt_lt, Int32.le_iff_toInt_le, ← Int32.toInt_inj, Int32.reduceToInt, n_1, n_2, n_8, Int32.toNatClampNeg, Int64.lt_iff_toInt_lt, Int64.le_iff_toInt_le, ← Int64.toInt_inj, Int64.reduceToInt, Int32.toInt_toInt64, lg_cmp_ge, lg_cmp_le, lg_cmp_gt, lg_cmp_lt, lg_cmp_eq, Bool.false_eq_true, Bool.true_eq_false, reduceCtorEq, false_iff, true_iff, iff_true, iff_false, and_true, true_and, and_false, false_and, reduceIte, ite_true, ite_false, eq_self] at *)) <;> omega)) A_134 A_156 P_WKS) (rfl) rfl rfl (zr (by omega)) mk_X12_isLit ly_84 ml_12_940 (Nat.le_of_ble_eq_true rfl) (fun x47 s46 hs46 => ?_)
                  obtain ⟨bx47, ex47, zs46, -⟩ := pB hs46
                  subst ex47
                  subst zs46
                  refine wa_if_eq o_X12_isLeaf_116 (by decide) (fun h48 => ?_) (fun h48 => ?_)
                  · replace h48 := bI_f (b := bx47) (rfl) h48
                    refine wa_iconst (v := 0) (by decide) ?_
                    refine wa_istoreD (lv' := [(5, .int (bI false)), (0, .ref 84), (1, .int a0), (2, .int a1), (3, .int l3), (4, .int (bI l4))]) (by decide) rfl ?_
                    refine wa_iload rfl ?_
                    refine wa_aload_n (i := 0) rfl rfl ?_
                    refine wa_getr ck_12 fl_12_123 ly_84 rf_84_46 ?_
                    refine wa_iload_n (i := 2) rfl rfl ?_
                    refine wa_iald ly_193 (by ((try simp only [vp_in_iff, Int32.lt_iff_toInt_lt, Int32.le_iff_toInt_le, ← Int32.toInt_inj, Int32.reduceToInt, n_1, n_2, n_8, Int32.toNatClampNeg, Int64.lt_iff_toInt_lt, Int64.le_iff_toInt_le, ← Int64.toInt_inj, Int64.reduceToInt, Int32.toInt_toInt64, lg_cmp_ge, lg_cmp_le, lg_cmp_gt, lg_cmp_lt, lg_cmp_eq, Bool.false_eq_true, Bool.true_eq_false, reduceCtorEq, false_iff, true_iff, iff_true, iff_false, and_true, true_and, and_false, false_and, reduceIte, ite_true, ite_false, eq_self] at *)) <;> omega) ?_
                    refine wa_bipush (v := 15) (by decide) ?_
                    refine wa_icmp_ne o_X12_isLeaf_136 (by decide) (fun h49 => ?_) (fun h49 => ?_)
                    · refine wa_iconst (v := 0) (by decide) ?_
                      refine wa_icmp_eq o_X12_isLeaf_142 (by decide) (fun h50 => ?_) (fun h50 => ?_)
                      · refine wa_iinc (v := (1)) (lv' := fun y51 => [(3, .int y51), (5, .int (bI false)), (0, .ref 84), (1, .int a0), (2, .int a1), (4, .int (bI l4))]) (by decide) rfl (by decide) (fun _ => rfl) (fun y51 hy51 => ?_)
                        have ty51 := i_addT hy51.symm
                        clear hy51
                        refine wa_goto o_X12_isLeaf_7 (by decide) ?_
                        refine wa_pick [2, 3, 4, 0] rfl ?_
                        exact ih2 _ (by ((try simp only [vp_in_iff, Int32.lt_iff_toInt_lt, Int32.le_iff_toInt_le, ← Int32.toInt_inj, Int32.reduceToInt, n_1, n_2, n_8, Int32.toNatClampNeg, Int64.lt_iff_toInt_lt, Int64.le_iff_toInt_le, ← Int64.toInt_inj, Int64.reduceToInt, Int32.toInt_toInt64, lg_cmp_ge, lg_cmp_le, lg_cmp_gt, lg_cmp_lt, lg_cmp_eq, Bool.false_eq_true, Bool.true_eq_false, reduceCtorEq, false_iff, true_iff, iff_true, iff_false, and_true, true_and, and_false, false_and, reduceIte, ite_true, ite_false, eq_self] at *)) <;> omega) _ ⟨(by ((try simp only [vp_in_iff, Int32.lt_iff_toInt_lt, Int32.le_iff_toInt_le, ← Int32.toInt_inj, Int32.reduceToInt, n_1, n_2, n_8, Int32.toNatClampNeg, Int64.lt_iff_toInt_lt, Int64.le_iff_toInt_le, ← Int64.toInt_inj, Int64.reduceToInt, Int32.toInt_toInt64, lg_cmp_ge, lg_cmp_le, lg_cmp_gt, lg_cmp_lt, lg_cmp_eq, Bool.false_eq_true, Bool.true_eq_false, reduceCtorEq, false_iff, true_iff, iff_true, iff_false, and_true, true_and, and_false, false_and, reduceIte, ite_true, ite_false, eq_self] at *)) <;> omega), trivial⟩ rfl
                      · refine wa_iconst (v := 1) (by decide) ?_
                        refine wa_zreturn true (rfl) rfl rfl ?_
                        exact ⟨_, rfl, rfl, trivial⟩
                    · refine wa_iconst (v := 1) (by decide) ?_
                      refine wa_goto o_X12_isLeaf_137 (by decide) ?_
                      refine wa_icmp_eq o_X12_isLeaf_142 (by decide) (fun h52 => ?_) (fun h52 => ?_)
                      · refine wa_iinc (v := (1)) (lv' := fun y53 => [(3, .int y53), (5, .int (bI false)), (0, .ref 84), (1, .int a0), (2, .int a1), (4, .int (bI l4))]) (by decide) rfl (by decide) (fun _ => rfl) (fun y53 hy53 => ?_)
                        have ty53 := i_addT hy53.symm
                        clear hy53
                        refine wa_goto o_X12_isLeaf_7 (by decide) ?_
                        refine wa_pick [2, 3, 4, 0] rfl ?_
                        exact ih2 _ (by ((try simp only [vp_in_iff, Int32.lt_iff_toInt_lt, Int32.le_iff_toInt_le, ← Int32.toInt_inj, Int32.reduceToInt, n_1, n_2, n_8, Int32.toNatClampNeg, Int64.lt_iff_toInt_lt, Int64.le_iff_toInt_le, ← Int64.toInt_inj, Int64.reduceToInt, Int32.toInt_toInt64, lg_cmp_ge, lg_cmp_le, lg_cmp_gt, lg_cmp_lt, lg_cmp_eq, Bool.false_eq_true, Bool.true_eq_false, reduceCtorEq, false_iff, true_iff, iff_true, iff_false, and_true, true_and, and_false, false_and, reduceIte, ite_true, ite_false, eq_self] at *)) <;> omega) _ ⟨(by ((try simp only [vp_in_iff, Int32.lt_iff_toInt_lt, Int32.le_iff_toInt_le, ← Int32.toInt_inj, Int32.reduceToInt, n_1, n_2, n_8, Int32.toNatClampNeg, Int64.lt_iff_toInt_lt, Int64.le_iff_toInt_le, ← Int64.toInt_inj, Int64.reduceToInt, Int32.toInt_toInt64, lg_cmp_ge, lg_cmp_le, lg_cmp_gt, lg_cmp_lt, lg_cmp_eq, Bool.false_eq_true, Bool.true_eq_false, reduceCtorEq, false_iff, true_iff, iff_true, iff_false, and_true, true_and, and_false, false_and, reduceIte, ite_true, ite_false, eq_self] at *)) <;> omega), trivial⟩ rfl
                      · refine wa_iconst (v := 1) (by decide) ?_
                        refine wa_zreturn true (rfl) rfl rfl ?_
                        exact ⟨_, rfl, rfl, trivial⟩
                  · replace h48 := bI_t (b := bx47) (rfl) h48
                    refine wa_aload_n (i := 0) rfl rfl ?_
                    refine wa_iload_n (i := 1) rfl rfl ?_
                    refine wa_aload_n (i := 0) rfl rfl ?_
                    refine wa_getr ck_12 fl_12_238 ly_84 rf_84_90 ?_
                    refine wa_bipush (v := 8) (by decide) ?_
                    refine wa_iload_n (i := 3) rfl rfl ?_
                    refine wa_imul ?_
                    refine wa_top (fun v54 hv54 => ?_)
                    have tv54 := i_mulT hv54
                    clear hv54
                    refine wa_bipush (v := 7) (by decide) ?_
                    refine wa_iadd ?_
                    refine wa_top (fun v55 hv55 => ?_)
                    have tv55 := i_addT hv55
                    clear hv55
                    refine wa_iald ly_155 (by ((try simp only [vp_in_iff, Int32.lt_iff_toInt_lt, Int32.le_iff_toInt_le, ← Int32.toInt_inj, Int32.reduceToInt, n_1, n_2, n_8, Int32.toNatClampNeg, Int64.lt_iff_toInt_lt, Int64.le_iff_toInt_le, ← Int64.toInt_inj, Int64.reduceToInt, Int32.toInt_toInt64, lg_cmp_ge, lg_cmp_le, lg_cmp_gt, lg_cmp_lt, lg_cmp_eq, Bool.false_eq_true, Bool.true_eq_false, reduceCtorEq, false_iff, true_iff, iff_true, iff_false, and_true, true_and, and_false, false_and, reduceIte, ite_true, ite_false, eq_self] at *)) <;> omega) ?_
                    refine wa_top (fun v56 hv56 => ?_)
                    have rv56 : -2 ≤ v56.toInt ∧ v56.toInt ≤ 47 := by rw [← hv56]; exact ar_at A_155 _
                    have qv56 := hv56
                    clear hv56
                    refine wa_Vi (d9 := d - 1) [.int _, .int _] [] (sp_X12_isLit G (d := d - 1) (by omega) σ _ _ (by ((try simp only [vp_in_iff, Int32.lt_iff_toInt_lt, Int32.le_iff_toInt_le, ← Int32.toInt_inj, Int32.reduceToInt, n_1, n_2, n_8, Int32.toNatClampNeg, Int64.lt_iff_toInt_lt, Int64.le_iff_toInt_le, ← Int64.toInt_inj, Int64.reduceToInt, Int32.toInt_toInt64, lg_cmp_ge, lg_cmp_le, lg_cmp_gt, lg_cmp_lt, lg_cmp_eq, Bool.false_eq_true, Bool.true_eq_false, reduceCtorEq, false_iff, true_iff, iff_true, iff_false, and_true, true_and, and_false, false_and, reduceIte, ite_true, ite_false, eq_self] at *)) <;> omega) (by assumption) (cli_lt P_CLI (s := (a0).toNatClampNeg) (l := (a1).toNatClampNeg) (c := (l3).toNatClampNeg) (i := 7) (by assumption) (by ((try simp only [vp_in_iff, Int32.lt_iff_toInt_lt, Int32.le_iff_toInt_le, ← Int32.toInt_inj, Int32.reduceToInt, n_1, n_2, n_8, Int32.toNatClampNeg, Int64.lt_iff_toInt_lt, Int64.le_iff_toInt_le, ← Int64.toInt_inj, Int64.reduceToInt, Int32.toInt_toInt64, lg_cmp_ge, lg_cmp_le, lg_cmp_gt, lg_cmp_lt, lg_cmp_eq, Bool.false_eq_true, Bool.true_eq_false, reduceCtorEq, false_iff, true_iff, iff_true, iff_false, and_true, true_and, and_false, false_and, reduceIte, ite_true, ite_false, eq_self] at *)) <;> omega) (by ((try simp only [vp_in_iff, Int32.lt_iff_toInt_lt, Int32.le_iff_toInt_le, ← Int32.toInt_inj, Int32.reduceToInt, n_1, n_2, n_8, Int32.toNatClampNeg, Int64.lt_iff_toInt_lt, Int64.le_iff_toInt_le, ← Int64.toInt_inj, Int64.reduceToInt, Int32.toInt_toInt64, lg_cmp_ge, lg_cmp_le, lg_cmp_gt, lg_cmp_lt, lg_cmp_eq, Bool.false_eq_true, Bool.true_eq_false, reduceCtorEq, false_iff, true_iff, iff_true, iff_false, and_true, true_and, and_false, false_and, reduceIte, ite_true, ite_false, eq_self] at *)) <;> omega) (by ((try simp only [vp_in_iff, Int32.lt_iff_toInt_lt, Int32.le_iff_toInt_le, ← Int32.toInt_inj, Int32.reduceToInt, n_1, n_2, n_8, Int32.toNatClampNeg, Int64.lt_iff_toInt_lt, Int64.le_iff_toInt_le, ← Int64.toInt_inj, Int64.reduceToInt, Int32.toInt_toInt64, lg_cmp_ge, lg_cmp_le, lg_cmp_gt, lg_cmp_lt, lg_cmp_eq, Bool.false_eq_true, Bool.true_eq_false, reduceCtorEq, false_iff, true_iff, iff_true, iff_false, and_true, true_and, and_false, false_and, reduceIte, ite_true, ite_false, eq_self] at *)) <;> omega) (by ((try simp only [vp_in_iff, Int32.lt_iff_toInt_lt, Int32.le_iff_toInt_le, ← Int32.toInt_inj, Int32.reduceToInt, n_1, n_2, n_8, Int32.toNatClampNeg, Int64.lt_iff_toInt_lt, Int64.le_iff_toInt_le, ← Int64.toInt_inj, Int64.reduceToInt, Int32.toInt_toInt64, lg_cmp_ge, lg_cmp_le, lg_cmp_gt, lg_cmp_lt, lg_cmp_eq, Bool.false_eq_true, Bool.true_eq_false, reduceCtorEq, false_iff, true_iff, iff_true, iff_false, and_true, true_and, and_false, false_and, reduceIte, ite_true, ite_false, eq_self] at *)) <;> omega) (by ((try simp only [vp_in_iff, Int32.lt_iff_toInt_lt, Int32.le_iff_toInt_le, ← Int32.toInt_inj, Int32.reduceToInt, n_1, n_2, n_8, Int32.toNatClampNeg, Int64.lt_iff_toInt_lt, Int64.le_iff_toInt_le, ← Int64.toInt_inj, Int64.reduceToInt, Int32.toInt_toInt64, lg_cmp_ge, lg_cmp_le, lg_cmp_gt, lg_cmp_lt, lg_cmp_eq, Bool.false_eq_true, Bool.true_eq_false, reduceCtorEq, false_iff, true_iff, iff_true, iff_false, and_true, true_and, and_false, false_and, reduceIte, ite_true, ite_false, eq_self] at *)) <;> omega) (by ((try simp only [vp_in_iff, Int32.lt_iff_toInt_lt, Int32.le_iff_toInt_le, ← Int32.toInt_inj, Int32.reduceToInt, n_1, n_2, n_8, Int32.toNatClampNeg, Int64.lt_iff_toInt_lt, Int64.le_iff_toInt_le, ← Int64.toInt_inj, Int64.reduceToInt, Int32.toInt_toInt64, lg_cmp_ge, lg_cmp_le, lg_cmp_gt, lg_cmp_lt, lg_cmp_eq, Bool.false_eq_true, Bool.true_eq_false, reduceCtorEq, false_iff, true_iff, iff_true, iff_false, and_true, true_and, and_false, false_and, reduceIte, ite_true, ite_false, eq_self] at *)) <;> omega) (by ((try simp only [vp_in_iff, Int32.lt_iff_toInt_lt, Int32.le_iff_toInt_le, ← Int32.toInt_inj, Int32.reduceToInt, n_1, n_2, n_8, Int32.toNatClampNeg, Int64.lt_iff_toInt_lt, Int64.le_iff_toInt_le, ← Int64.toInt_inj, Int64.reduceToInt, Int32.toInt_toInt64, lg_cmp_ge, lg_cmp_le, lg_cmp_gt, lg_cmp_lt, lg_cmp_eq, Bool.false_eq_true, Bool.true_eq_false, reduceCtorEq, false_iff, true_iff, iff_true, iff_false, and_true, true_and, and_false, false_and, reduceIte, ite_true, ite_false, eq_self] at *)) <;> omega)) A_134 A_156 P_WKS) (rfl) rfl rfl (zr (by omega)) mk_X12_isLit ly_84 ml_12_940 (Nat.le_of_ble_eq_true rfl) (fun x58 s57 hs57 => ?_)
                    obtain ⟨bx58, ex58, zs57, -⟩ := pB hs57
                    subst ex58
                    subst zs57
                    refine wa_if_eq o_X12_isLeaf_116 (by decide) (fun h59 => ?_) (fun h59 => ?_)
                    · replace h59 := bI_f (b := bx58) (rfl) h59
                      refine wa_iconst (v := 0) (by decide) ?_
                      refine wa_istoreD (lv' := [(5, .int (bI false)), (0, .ref 84), (1, .int a0), (2, .int a1), (3, .int l3), (4, .int (bI l4))]) (by decide) rfl ?_
                      refine wa_iload rfl ?_
                      refine wa_aload_n (i := 0) rfl rfl ?_
                      refine wa_getr ck_12 fl_12_123 ly_84 rf_84_46 ?_
                      refine wa_iload_n (i := 2) rfl rfl ?_
                      refine wa_iald ly_193 (by ((try simp only [vp_in_iff, Int32.lt_iff_toInt_lt, Int32.le_iff_toInt_le, ← Int32.toInt_inj, Int32.reduceToInt, n_1, n_2, n_8, Int32.toNatClampNeg, Int64.lt_iff_toInt_lt, Int64.le_iff_toInt_le, ← Int64.toInt_inj, Int64.reduceToInt, Int32.toInt_toInt64, lg_cmp_ge, lg_cmp_le, lg_cmp_gt, lg_cmp_lt, lg_cmp_eq, Bool.false_eq_true, Bool.true_eq_false, reduceCtorEq, false_iff, true_iff, iff_true, iff_false, and_true, true_and, and_false, false_and, reduceIte, ite_true, ite_false, eq_self] at *)) <;> omega) ?_
                      refine wa_bipush (v := 15) (by decide) ?_
                      refine wa_icmp_ne o_X12_isLeaf_136 (by decide) (fun h60 => ?_) (fun h60 => ?_)
                      · refine wa_iconst (v := 0) (by decide) ?_
                        refine wa_icmp_eq o_X12_isLeaf_142 (by decide) (fun h61 => ?_) (fun h61 => ?_)
                        · refine wa_iinc (v := (1)) (lv' := fun y62 => [(3, .int y62), (5, .int (bI false)), (0, .ref 84), (1, .int a0), (2, .int a1), (4, .int (bI l4))]) (by decide) rfl (by decide) (fun _ => rfl) (fun y62 hy62 => ?_)
                          have ty62 := i_addT hy62.symm
                          clear hy62
                          refine wa_goto o_X12_isLeaf_7 (by decide) ?_
                          refine wa_pick [2, 3, 4, 0] rfl ?_
                          exact ih2 _ (by ((try simp only [vp_in_iff, Int32.lt_iff_toInt_lt, Int32.le_iff_toInt_le, ← Int32.toInt_inj, Int32.reduceToInt, n_1, n_2, n_8, Int32.toNatClampNeg, Int64.lt_iff_toInt_lt, Int64.le_iff_toInt_le, ← Int64.toInt_inj, Int64.reduceToInt, Int32.toInt_toInt64, lg_cmp_ge, lg_cmp_le, lg_cmp_gt, lg_cmp_lt, lg_cmp_eq, Bool.false_eq_true, Bool.true_eq_false, reduceCtorEq, false_iff, true_iff, iff_true, iff_false, and_true, true_and, and_false, false_and, reduceIte, ite_true, ite_false, eq_self] at *)) <;> omega) _ ⟨(by ((try simp only [vp_in_iff, Int32.lt_iff_toInt_lt, Int32.le_iff_toInt_le, ← Int32.toInt_inj, Int32.reduceToInt, n_1, n_2, n_8, Int32.toNatClampNeg, Int64.lt_iff_toInt_lt, Int64.le_iff_toInt_le, ← Int64.toInt_inj, Int64.reduceToInt, Int32.toInt_toInt64, lg_cmp_ge, lg_cmp_le, lg_cmp_gt, lg_cmp_lt, lg_cmp_eq, Bool.false_eq_true, Bool.true_eq_false, reduceCtorEq, false_iff, true_iff, iff_true, iff_false, and_true, true_and, and_false, false_and, reduceIte, ite_true, ite_false, eq_self] at *)) <;> omega), trivial⟩ rfl
                        · refine wa_iconst (v := 1) (by decide) ?_
                          refine wa_zreturn true (rfl) rfl rfl ?_
                          exact ⟨_, rfl, rfl, trivial⟩
                      · refine wa_iconst (v := 1) (by decide) ?_
                        refine wa_goto o_X12_isLeaf_137 (by decide) ?_
                        refine wa_icmp_eq o_X12_isLeaf_142 (by decide) (fun h63 => ?_) (fun h63 => ?_)
                        · refine wa_iinc (v := (1)) (lv' := fun y64 => [(3, .int y64), (5, .int (bI false)), (0, .ref 84), (1, .int a0), (2, .int a1), (4, .int (bI l4))]) (by decide) rfl (by decide) (fun _ => rfl) (fun y64 hy64 => ?_)
                          have ty64 := i_addT hy64.symm
                          clear hy64
                          refine wa_goto o_X12_isLeaf_7 (by decide) ?_
                          refine wa_pick [2, 3, 4, 0] rfl ?_
                          exact ih2 _ (by ((try simp only [vp_in_iff, Int32.lt_iff_toInt_lt, Int32.le_iff_toInt_le, ← Int32.toInt_inj, Int32.reduceToInt, n_1, n_2, n_8, Int32.toNatClampNeg, Int64.lt_iff_toInt_lt, Int64.le_iff_toInt_le, ← Int64.toInt_inj, Int64.reduceToInt, Int32.toInt_toInt64, lg_cmp_ge, lg_cmp_le, lg_cmp_gt, lg_cmp_lt, lg_cmp_eq, Bool.false_eq_true, Bool.true_eq_false, reduceCtorEq, false_iff, true_iff, iff_true, iff_false, and_true, true_and, and_false, false_and, reduceIte, ite_true, ite_false, eq_self] at *)) <;> omega) _ ⟨(by ((try simp only [vp_in_iff, Int32.lt_iff_toInt_lt, Int32.le_iff_toInt_le, ← Int32.toInt_inj, Int32.reduceToInt, n_1, n_2, n_8, Int32.toNatClampNeg, Int64.lt_iff_toInt_lt, Int64.le_iff_toInt_le, ← Int64.toInt_inj, Int64.reduceToInt, Int32.toInt_toInt64, lg_cmp_ge, lg_cmp_le, lg_cmp_gt, lg_cmp_lt, lg_cmp_eq, Bool.false_eq_true, Bool.true_eq_false, reduceCtorEq, false_iff, true_iff, iff_true, iff_false, and_true, true_and, and_false, false_and, reduceIte, ite_true, ite_false, eq_self] at *)) <;> omega), trivial⟩ rfl
                        · refine wa_iconst (v := 1) (by decide) ?_
                          refine wa_zreturn true (rfl) rfl rfl ?_
                          exact ⟨_, rfl, rfl, trivial⟩
                    · replace h59 := bI_t (b := bx58) (rfl) h59
                      refine wa_iconst (v := 1) (by decide) ?_
                      refine wa_goto o_X12_isLeaf_117 (by decide) ?_
                      refine wa_istoreD (lv' := [(5, .int (bI true)), (0, .ref 84), (1, .int a0), (2, .int a1), (3, .int l3), (4, .int (bI l4))]) (by decide) rfl ?_
                      refine wa_iload rfl ?_
                      refine wa_aload_n (i := 0) rfl rfl ?_
                      refine wa_getr ck_12 fl_12_123 ly_84 rf_84_46 ?_
                      refine wa_iload_n (i := 2) rfl rfl ?_
                      refine wa_iald ly_193 (by ((try simp only [vp_in_iff, Int32.lt_iff_toInt_lt, Int32.le_iff_toInt_le, ← Int32.toInt_inj, Int32.reduceToInt, n_1, n_2, n_8, Int32.toNatClampNeg, Int64.lt_iff_toInt_lt, Int64.le_iff_toInt_le, ← Int64.toInt_inj, Int64.reduceToInt, Int32.toInt_toInt64, lg_cmp_ge, lg_cmp_le, lg_cmp_gt, lg_cmp_lt, lg_cmp_eq, Bool.false_eq_true, Bool.true_eq_false, reduceCtorEq, false_iff, true_iff, iff_true, iff_false, and_true, true_and, and_false, false_and, reduceIte, ite_true, ite_false, eq_self] at *)) <;> omega) ?_
                      refine wa_bipush (v := 15) (by decide) ?_
                      refine wa_icmp_ne o_X12_isLeaf_136 (by decide) (fun h65 => ?_) (fun h65 => ?_)
                      · refine wa_iconst (v := 0) (by decide) ?_
                        refine wa_icmp_eq o_X12_isLeaf_142 (by decide) (fun h66 => ?_) (fun h66 => ?_)
                        · refine wa_iinc (v := (1)) (lv' := fun y67 => [(3, .int y67), (5, .int (bI true)), (0, .ref 84), (1, .int a0), (2, .int a1), (4, .int (bI l4))]) (by decide) rfl (by decide) (fun _ => rfl) (fun y67 hy67 => ?_)
                          have ty67 := i_addT hy67.symm
                          clear hy67
                          refine wa_goto o_X12_isLeaf_7 (by decide) ?_
                          refine wa_pick [2, 3, 4, 0] rfl ?_
                          exact ih2 _ (by ((try simp only [vp_in_iff, Int32.lt_iff_toInt_lt, Int32.le_iff_toInt_le, ← Int32.toInt_inj, Int32.reduceToInt, n_1, n_2, n_8, Int32.toNatClampNeg, Int64.lt_iff_toInt_lt, Int64.le_iff_toInt_le, ← Int64.toInt_inj, Int64.reduceToInt, Int32.toInt_toInt64, lg_cmp_ge, lg_cmp_le, lg_cmp_gt, lg_cmp_lt, lg_cmp_eq, Bool.false_eq_true, Bool.true_eq_false, reduceCtorEq, false_iff, true_iff, iff_true, iff_false, and_true, true_and, and_false, false_and, reduceIte, ite_true, ite_false, eq_self] at *)) <;> omega) _ ⟨(by ((try simp only [vp_in_iff, Int32.lt_iff_toInt_lt, Int32.le_iff_toInt_le, ← Int32.toInt_inj, Int32.reduceToInt, n_1, n_2, n_8, Int32.toNatClampNeg, Int64.lt_iff_toInt_lt, Int64.le_iff_toInt_le, ← Int64.toInt_inj, Int64.reduceToInt, Int32.toInt_toInt64, lg_cmp_ge, lg_cmp_le, lg_cmp_gt, lg_cmp_lt, lg_cmp_eq, Bool.false_eq_true, Bool.true_eq_false, reduceCtorEq, false_iff, true_iff, iff_true, iff_false, and_true, true_and, and_false, false_and, reduceIte, ite_true, ite_false, eq_self] at *)) <;> omega), trivial⟩ rfl
                        · refine wa_iconst (v := 1) (by decide) ?_
                          refine wa_zreturn true (rfl) rfl rfl ?_
                          exact ⟨_, rfl, rfl, trivial⟩
                      · refine wa_iconst (v := 1) (by decide) ?_
                        refine wa_goto o_X12_isLeaf_137 (by decide) ?_
                        refine wa_icmp_eq o_X12_isLeaf_142 (by decide) (fun h68 => ?_) (fun h68 => ?_)
                        · refine wa_iinc (v := (1)) (lv' := fun y69 => [(3, .int y69), (5, .int (bI true)), (0, .ref 84), (1, .int a0), (2, .int a1), (4, .int (bI l4))]) (by decide) rfl (by decide) (fun _ => rfl) (fun y69 hy69 => ?_)
                          have ty69 := i_addT hy69.symm
                          clear hy69
                          refine wa_goto o_X12_isLeaf_7 (by decide) ?_
                          refine wa_pick [2, 3, 4, 0] rfl ?_
                          exact ih2 _ (by ((try simp only [vp_in_iff, Int32.lt_iff_toInt_lt, Int32.le_iff_toInt_le, ← Int32.toInt_inj, Int32.reduceToInt, n_1, n_2, n_8, Int32.toNatClampNeg, Int64.lt_iff_toInt_lt, Int64.le_iff_toInt_le, ← Int64.toInt_inj, Int64.reduceToInt, Int32.toInt_toInt64, lg_cmp_ge, lg_cmp_le, lg_cmp_gt, lg_cmp_lt, lg_cmp_eq, Bool.false_eq_true, Bool.true_eq_false, reduceCtorEq, false_iff, true_iff, iff_true, iff_false, and_true, true_and, and_false, false_and, reduceIte, ite_true, ite_false, eq_self] at *)) <;> omega) _ ⟨(by ((try simp only [vp_in_iff, Int32.lt_iff_toInt_lt, Int32.le_iff_toInt_le, ← Int32.toInt_inj, Int32.reduceToInt, n_1, n_2, n_8, Int32.toNatClampNeg, Int64.lt_iff_toInt_lt, Int64.le_iff_toInt_le, ← Int64.toInt_inj, Int64.reduceToInt, Int32.toInt_toInt64, lg_cmp_ge, lg_cmp_le, lg_cmp_gt, lg_cmp_lt, lg_cmp_eq, Bool.false_eq_true, Bool.true_eq_false, reduceCtorEq, false_iff, true_iff, iff_true, iff_false, and_true, true_and, and_false, false_and, reduceIte, ite_true, ite_false, eq_self] at *)) <;> omega), trivial⟩ rfl
                        · refine wa_iconst (v := 1) (by decide) ?_
                          refine wa_zreturn true (rfl) rfl rfl ?_
                          exact ⟨_, rfl, rfl, trivial⟩
              · replace h40 := bI_t (b := l4) (rfl) h40
                refine wa_aload_n (i := 0) rfl rfl ?_
                refine wa_iload_n (i := 1) rfl rfl ?_
                refine wa_aload_n (i := 0) rfl rfl ?_
                refine wa_getr ck_12 fl_12_238 ly_84 rf_84_90 ?_
                refine wa_bipush (v := 8) (by decide) ?_
                refine wa_iload_n (i := 3) rfl rfl ?_
                refine wa_imul ?_
                refine wa_top (fun v70 hv70 => ?_)
                have tv70 := i_mulT hv70
                clear hv70
                refine wa_iload rfl ?_
                refine wa_iadd ?_
                refine wa_top (fun v71 hv71 => ?_)
                have tv71 := i_addT hv71
                clear hv71
                refine wa_iald ly_155 (by ((try simp only [vp_in_iff, Int32.lt_iff_toInt_lt, Int32.le_iff_toInt_le, ← Int32.toInt_inj, Int32.reduceToInt, n_1, n_2, n_8, Int32.toNatClampNeg, Int64.lt_iff_toInt_lt, Int64.le_iff_toInt_le, ← Int64.toInt_inj, Int64.reduceToInt, Int32.toInt_toInt64, lg_cmp_ge, lg_cmp_le, lg_cmp_gt, lg_cmp_lt, lg_cmp_eq, Bool.false_eq_true, Bool.true_eq_false, reduceCtorEq, false_iff, true_iff, iff_true, iff_false, and_true, true_and, and_false, false_and, reduceIte, ite_true, ite_false, eq_self] at *)) <;> omega) ?_
                refine wa_top (fun v72 hv72 => ?_)
                have rv72 : -2 ≤ v72.toInt ∧ v72.toInt ≤ 47 := by rw [← hv72]; exact ar_at A_155 _
                have qv72 := hv72
                clear hv72
                refine wa_Vi (d9 := d - 1) [.int _, .int _] [] (sp_X12_isLit G (d := d - 1) (by omega) σ _ _ (by ((try simp only [vp_in_iff, Int32.lt_iff_toInt_lt, Int32.le_iff_toInt_le, ← Int32.toInt_inj, Int32.reduceToInt, n_1, n_2, n_8, Int32.toNatClampNeg, Int64.lt_iff_toInt_lt, Int64.le_iff_toInt_le, ← Int64.toInt_inj, Int64.reduceToInt, Int32.toInt_toInt64, lg_cmp_ge, lg_cmp_le, lg_cmp_gt, lg_cmp_lt, lg_cmp_eq, Bool.false_eq_true, Bool.true_eq_false, reduceCtorEq, false_iff, true_iff, iff_true, iff_false, and_true, true_and, and_false, false_and, reduceIte, ite_true, ite_false, eq_self] at *)) <;> omega) (by assumption) (cli_lt P_CLI (s := (a0).toNatClampNeg) (l := (a1).toNatClampNeg) (c := (l3).toNatClampNeg) (i := (l5).toNatClampNeg) (by assumption) (by ((try simp only [vp_in_iff, Int32.lt_iff_toInt_lt, Int32.le_iff_toInt_le, ← Int32.toInt_inj, Int32.reduceToInt, n_1, n_2, n_8, Int32.toNatClampNeg, Int64.lt_iff_toInt_lt, Int64.le_iff_toInt_le, ← Int64.toInt_inj, Int64.reduceToInt, Int32.toInt_toInt64, lg_cmp_ge, lg_cmp_le, lg_cmp_gt, lg_cmp_lt, lg_cmp_eq, Bool.false_eq_true, Bool.true_eq_false, reduceCtorEq, false_iff, true_iff, iff_true, iff_false, and_true, true_and, and_false, false_and, reduceIte, ite_true, ite_false, eq_self] at *)) <;> omega) (by ((try simp only [vp_in_iff, Int32.lt_iff_toInt_lt, Int32.le_iff_toInt_le, ← Int32.toInt_inj, Int32.reduceToInt, n_1, n_2, n_8, Int32.toNatClampNeg, Int64.lt_iff_toInt_lt, Int64.le_iff_toInt_le, ← Int64.toInt_inj, Int64.reduceToInt, Int32.toInt_toInt64, lg_cmp_ge, lg_cmp_le, lg_cmp_gt, lg_cmp_lt, lg_cmp_eq, Bool.false_eq_true, Bool.true_eq_false, reduceCtorEq, false_iff, true_iff, iff_true, iff_false, and_true, true_and, and_false, false_and, reduceIte, ite_true, ite_false, eq_self] at *)) <;> omega) (by ((try simp only [vp_in_iff, Int32.lt_iff_toInt_lt, Int32.le_iff_toInt_le, ← Int32.toInt_inj, Int32.reduceToInt, n_1, n_2, n_8, Int32.toNatClampNeg, Int64.lt_iff_toInt_lt, Int64.le_iff_toInt_le, ← Int64.toInt_inj, Int64.reduceToInt, Int32.toInt_toInt64, lg_cmp_ge, lg_cmp_le, lg_cmp_gt, lg_cmp_lt, lg_cmp_eq, Bool.false_eq_true, Bool.true_eq_false, reduceCtorEq, false_iff, true_iff, iff_true, iff_false, and_true, true_and, and_false, false_and, reduceIte, ite_true, ite_false, eq_self] at *)) <;> omega) (by ((try simp only [vp_in_iff, Int32.lt_iff_toInt_lt, Int32.le_iff_toInt_le, ← Int32.toInt_inj, Int32.reduceToInt, n_1, n_2, n_8, Int32.toNatClampNeg, Int64.lt_iff_toInt_lt, Int64.le_iff_toInt_le, ← Int64.toInt_inj, Int64.reduceToInt, Int32.toInt_toInt64, lg_cmp_ge, lg_cmp_le, lg_cmp_gt, lg_cmp_lt, lg_cmp_eq, Bool.false_eq_true, Bool.true_eq_false, reduceCtorEq, false_iff, true_iff, iff_true, iff_false, and_true, true_and, and_false, false_and, reduceIte, ite_true, ite_false, eq_self] at *)) <;> omega) (by ((try simp only [vp_in_iff, Int32.lt_iff_toInt_lt, Int32.le_iff_toInt_le, ← Int32.toInt_inj, Int32.reduceToInt, n_1, n_2, n_8, Int32.toNatClampNeg, Int64.lt_iff_toInt_lt, Int64.le_iff_toInt_le, ← Int64.toInt_inj, Int64.reduceToInt, Int32.toInt_toInt64, lg_cmp_ge, lg_cmp_le, lg_cmp_gt, lg_cmp_lt, lg_cmp_eq, Bool.false_eq_true, Bool.true_eq_false, reduceCtorEq, false_iff, true_iff, iff_true, iff_false, and_true, true_and, and_false, false_and, reduceIte, ite_true, ite_false, eq_self] at *)) <;> omega) (by ((try simp only [vp_in_iff, Int32.lt_iff_toInt_lt, Int32.le_iff_toInt_le, ← Int32.toInt_inj, Int32.reduceToInt, n_1, n_2, n_8, Int32.toNatClampNeg, Int64.lt_iff_toInt_lt, Int64.le_iff_toInt_le, ← Int64.toInt_inj, Int64.reduceToInt, Int32.toInt_toInt64, lg_cmp_ge, lg_cmp_le, lg_cmp_gt, lg_cmp_lt, lg_cmp_eq, Bool.false_eq_true, Bool.true_eq_false, reduceCtorEq, false_iff, true_iff, iff_true, iff_false, and_true, true_and, and_false, false_and, reduceIte, ite_true, ite_false, eq_self] at *)) <;> omega) (by ((try simp only [vp_in_iff, Int32.lt_iff_toInt_lt, Int32.le_iff_toInt_le, ← Int32.toInt_inj, Int32.reduceToInt, n_1, n_2, n_8, Int32.toNatClampNeg, Int64.lt_iff_toInt_lt, Int64.le_iff_toInt_le, ← Int64.toInt_inj, Int64.reduceToInt, Int32.toInt_toInt64, lg_cmp_ge, lg_cmp_le, lg_cmp_gt, lg_cmp_lt, lg_cmp_eq, Bool.false_eq_true, Bool.true_eq_false, reduceCtorEq, false_iff, true_iff, iff_true, iff_false, and_true, true_and, and_false, false_and, reduceIte, ite_true, ite_false, eq_self] at *)) <;> omega)) A_134 A_156 P_WKS) (rfl) rfl rfl (zr (by omega)) mk_X12_isLit ly_84 ml_12_940 (Nat.le_of_ble_eq_true rfl) (fun x74 s73 hs73 => ?_)
                obtain ⟨bx74, ex74, zs73, -⟩ := pB hs73
                subst ex74
                subst zs73
                refine wa_istoreD (lv' := [(4, .int (bI bx74)), (0, .ref 84), (1, .int a0), (2, .int a1), (3, .int l3), (5, .int l5)]) (by decide) rfl ?_
                refine wa_iinc (v := (1)) (lv' := fun y75 => [(5, .int y75), (4, .int (bI bx74)), (0, .ref 84), (1, .int a0), (2, .int a1), (3, .int l3)]) (by decide) rfl (by decide) (fun _ => rfl) (fun y75 hy75 => ?_)
                have ty75 := i_addT hy75.symm
                clear hy75
                refine wa_goto o_X12_isLeaf_30 (by decide) ?_
                refine wa_pick [2, 3, 4, 5, 1, 0] rfl ?_
                exact ih8 _ (by ((try simp only [vp_in_iff, Int32.lt_iff_toInt_lt, Int32.le_iff_toInt_le, ← Int32.toInt_inj, Int32.reduceToInt, n_1, n_2, n_8, Int32.toNatClampNeg, Int64.lt_iff_toInt_lt, Int64.le_iff_toInt_le, ← Int64.toInt_inj, Int64.reduceToInt, Int32.toInt_toInt64, lg_cmp_ge, lg_cmp_le, lg_cmp_gt, lg_cmp_lt, lg_cmp_eq, Bool.false_eq_true, Bool.true_eq_false, reduceCtorEq, false_iff, true_iff, iff_true, iff_false, and_true, true_and, and_false, false_and, reduceIte, ite_true, ite_false, eq_self] at *)) <;> omega) _ _ ⟨(by ((try simp only [vp_in_iff, Int32.lt_iff_toInt_lt, Int32.le_iff_toInt_le, ← Int32.toInt_inj, Int32.reduceToInt, n_1, n_2, n_8, Int32.toNatClampNeg, Int64.lt_iff_toInt_lt, Int64.le_iff_toInt_le, ← Int64.toInt_inj, Int64.reduceToInt, Int32.toInt_toInt64, lg_cmp_ge, lg_cmp_le, lg_cmp_gt, lg_cmp_lt, lg_cmp_eq, Bool.false_eq_true, Bool.true_eq_false, reduceCtorEq, false_iff, true_iff, iff_true, iff_false, and_true, true_and, and_false, false_and, reduceIte, ite_true, ite_false, eq_self] at *)) <;> omega), trivial⟩ rfl
        exact hi9 _ _ _ ⟨(by ((try simp only [vp_in_iff, Int32.lt_iff_toInt_lt, Int32.le_iff_toInt_le, ← Int32.toInt_inj, Int32.reduceToInt, n_1, n_2, n_8, Int32.toNatClampNeg, Int64.lt_iff_toInt_lt, Int64.le_iff_toInt_le, ← Int64.toInt_inj, Int64.reduceToInt, Int32.toInt_toInt64, lg_cmp_ge, lg_cmp_le, lg_cmp_gt, lg_cmp_lt, lg_cmp_eq, Bool.false_eq_true, Bool.true_eq_false, reduceCtorEq, false_iff, true_iff, iff_true, iff_false, and_true, true_and, and_false, false_and, reduceIte, ite_true, ite_false, eq_self] at *)) <;> omega), trivial⟩ rfl
  exact hi3 _ _ ⟨(by ((try simp only [vp_in_iff, Int32.lt_iff_toInt_lt, Int32.le_iff_toInt_le, ← Int32.toInt_inj, Int32.reduceToInt, n_1, n_2, n_8, Int32.toNatClampNeg, Int64.lt_iff_toInt_lt, Int64.le_iff_toInt_le, ← Int64.toInt_inj, Int64.reduceToInt, Int32.toInt_toInt64, lg_cmp_ge, lg_cmp_le, lg_cmp_gt, lg_cmp_lt, lg_cmp_eq, Bool.false_eq_true, Bool.true_eq_false, reduceCtorEq, false_iff, true_iff, iff_true, iff_false, and_true, true_and, and_false, false_and, reduceIte, ite_true, ite_false, eq_self] at *)) <;> omega), trivial⟩ rfl
set_option maxHeartbeats 4000000 in
theorem sp_X12_isNode (G : kG9) {d : Nat} (hd : 2 ≤ d) (σ : St) (a0 : Int32) (a1 : Int32) (p1 : 0 ≤ a0.toInt ∧ a0.toInt < 25) (p2 : gb σ 133 (a0).toNatClampNeg = true) (p3 : 250 * a0.toInt ≤ a1.toInt ∧ a1.toInt < 250 * a0.toInt + (gi σ 194 (a0).toNatClampNeg).toInt) (A_134 : AR ap_134 σ 134) (A_155 : AR ap_155 σ 155) (A_156 : AR ap_156 σ 156) (A_183 : AR ap_183 σ 183) (A_184 : AR ap_184 σ 184) (A_185 : AR ap_185 σ 185) (A_194 : AR ap_194 σ 194) (P_WKS : WKS σ) (P_CLI : CLI σ) (P_NOK : NOK σ) : Ct G M_X12_isNode d [.ref 84, .int a0, .int a1] σ (fun r σ' => ∃ x : Bool, r = some (.int (bI x)) ∧ σ = σ' ∧ True) := by
  refine wa_start (by decide) rfl (Nat.le_of_ble_eq_true rfl) (lv := [(0, .ref 84), (1, .int a0), (2, .int a1)]) rfl o_X12_isNode_0 rfl ?_
  have ua0 := Int32.toInt_lt a0
  have wa0 := Int32.le_toInt a0
  have ua1 := Int32.toInt_lt a1
  have wa1 := Int32.le_toInt a1
  have n194 : 0 ≤ (gi σ 194 (a0).toNatClampNeg).toInt ∧ (gi σ 194 (a0).toNatClampNeg).toInt ≤ 250 := ar_at A_194 _
  have nk := P_NOK (a0).toNatClampNeg (a1).toNatClampNeg (by ((try simp only [vp_in_iff, Int32.lt_iff_toInt_lt, Int32.le_iff_toInt_le, ← Int32.toInt_inj, Int32.reduceToInt, n_1, n_2, n_8, Int32.toNatClampNeg, Int64.lt_iff_toInt_lt, Int64.le_iff_toInt_le, ← Int64.toInt_inj, Int64.reduceToInt, Int32.toInt_toInt64, lg_cmp_ge, lg_cmp_le, lg_cmp_gt, lg_cmp_lt, lg_cmp_eq, Bool.false_eq_true, Bool.true_eq_false, reduceCtorEq, false_iff, true_iff, iff_true, iff_false, and_true, true_and, and_false, false_and, reduceIte, ite_true, ite_false, eq_self] at *)) <;> omega) (by ((try simp only [vp_in_iff, Int32.lt_iff_toInt_lt, Int32.le_iff_toInt_le, ← Int32.toInt_inj, Int32.reduceToInt, n_1, n_2, n_8, Int32.toNatClampNeg, Int64.lt_iff_toInt_lt, Int64.le_iff_toInt_le, ← Int64.toInt_inj, Int64.reduceToInt, Int32.toInt_toInt64, lg_cmp_ge, lg_cmp_le, lg_cmp_gt, lg_cmp_lt, lg_cmp_eq, Bool.false_eq_true, Bool.true_eq_false, reduceCtorEq, false_iff, true_iff, iff_true, iff_false, and_true, true_and, and_false, false_and, reduceIte, ite_true, ite_false, eq_self] at *)) <;> omega) (by ((try simp only [vp_in_iff, Int32.lt_iff_toInt_lt, Int32.le_iff_toInt_le, ← Int32.toInt_inj, Int32.reduceToInt, n_1, n_2, n_8, Int32.toNatClampNeg, Int64.lt_iff_toInt_lt, Int64.le_iff_toInt_le, ← Int64.toInt_inj, Int64.reduceToInt, Int32.toInt_toInt64, lg_cmp_ge, lg_cmp_le, lg_cmp_gt, lg_cmp_lt, lg_cmp_eq, Bool.false_eq_true, Bool.true_eq_false, reduceCtorEq, false_iff, true_iff, iff_true, iff_false, and_true, true_and, and_false, false_and, reduceIte, ite_true, ite_false, eq_self] at *)) <;> omega)
  unfold NK at nk
  refine wa_aload_n (i := 0) rfl rfl ?_
  refine wa_getr ck_12 fl_12_108 ly_84 rf_84_41 ?_
  refine wa_iload_n (i := 2) rfl rfl ?_
  refine wa_iald ly_198 (by ((try simp only [vp_in_iff, Int32.lt_iff_toInt_lt, Int32.le_iff_toInt_le, ← Int32.toInt_inj, Int32.reduceToInt, n_1, n_2, n_8, Int32.toNatClampNeg, Int64.lt_iff_toInt_lt, Int64.le_iff_toInt_le, ← Int64.toInt_inj, Int64.reduceToInt, Int32.toInt_toInt64, lg_cmp_ge, lg_cmp_le, lg_cmp_gt, lg_cmp_lt, lg_cmp_eq, Bool.false_eq_true, Bool.true_eq_false, reduceCtorEq, false_iff, true_iff, iff_true, iff_false, and_true, true_and, and_false, false_and, reduceIte, ite_true, ite_false, eq_self] at *)) <;> omega) ?_
  refine wa_top (fun v1 hv1 => ?_)
  have qv1 := hv1
  clear hv1
  refine wa_top (fun q2 hq2 => ?_)
  by_cases h3 : q2 = 3
  · refine wa_tIn (by rw [h3]; decide) (by rw [h3]; decide) (by rw [h3] <;> rfl) o_X12_isNode_209 (by decide) ?_
    refine wa_iconst (v := 1) (by decide) ?_
    refine wa_istore_nD (lv' := [(3, .int (bI true)), (0, .ref 84), (1, .int a0), (2, .int a1)]) (i := 3) rfl (by decide) rfl ?_
    refine wa_aload_n (i := 0) rfl rfl ?_
    refine wa_getr ck_12 fl_12_111 ly_84 rf_84_42 ?_
    refine wa_iload_n (i := 2) rfl rfl ?_
    refine wa_iald ly_197 (by ((try simp only [vp_in_iff, Int32.lt_iff_toInt_lt, Int32.le_iff_toInt_le, ← Int32.toInt_inj, Int32.reduceToInt, n_1, n_2, n_8, Int32.toNatClampNeg, Int64.lt_iff_toInt_lt, Int64.le_iff_toInt_le, ← Int64.toInt_inj, Int64.reduceToInt, Int32.toInt_toInt64, lg_cmp_ge, lg_cmp_le, lg_cmp_gt, lg_cmp_lt, lg_cmp_eq, Bool.false_eq_true, Bool.true_eq_false, reduceCtorEq, false_iff, true_iff, iff_true, iff_false, and_true, true_and, and_false, false_and, reduceIte, ite_true, ite_false, eq_self] at *)) <;> omega) ?_
    refine wa_top (fun v4 hv4 => ?_)
    have qv4 := hv4
    clear hv4
    refine wa_istoreD (lv' := [(4, .int v4), (3, .int (bI true)), (0, .ref 84), (1, .int a0), (2, .int a1)]) (by decide) rfl ?_
    refine wa_pick [2, 1, 0] rfl ?_
    have hi6 : ∀ (n9_219 : Nat) (l3 : Bool) (l4 : Int32), ((l4.toInt = -1 ∨ (250 * a0.toInt ≤ l4.toInt ∧ l4.toInt < 250 * a0.toInt + (gi σ 194 (a0).toNatClampNeg).toInt)) ∧ (True)) → (6501 - (l4.toInt + 6502) % 6502).toNat = n9_219 → WA G M_X12_isNode (ZM G M_X12_isNode d (fun r σ' => ∃ x : Bool, r = some (.int (bI x)) ∧ σ = σ' ∧ True)) B_X12_isNode_219 [(0, .ref 84), (3, .int (bI l3)), (4, .int l4)] [] σ := by
      intro n9_219
      induction n9_219 using Nat.strongRecOn with
      | _ n9_219 ih5 =>
        intro l3 l4  i9 m9_219
        obtain ⟨jhi6_0, -⟩ := i9
        have ul4 := Int32.toInt_lt l4
        have wl4 := Int32.le_toInt l4
        refine wa_iload rfl ?_
        refine wa_iconst (v := (-1)) (by decide) ?_
        refine wa_icmp_eq o_X12_isNode_257 (by decide) (fun h7 => ?_) (fun h7 => ?_)
        · refine wa_iload_n (i := 3) rfl rfl ?_
          refine wa_zreturn l3 (rfl) rfl rfl ?_
          exact ⟨_, rfl, rfl, trivial⟩
        · refine wa_iload_n (i := 3) rfl rfl ?_
          refine wa_if_eq o_X12_isNode_243 (by decide) (fun h8 => ?_) (fun h8 => ?_)
          · replace h8 := bI_f (b := l3) (rfl) h8
            refine wa_iconst (v := 0) (by decide) ?_
            refine wa_istore_nD (lv' := [(3, .int (bI false)), (0, .ref 84), (4, .int l4)]) (i := 3) rfl (by decide) rfl ?_
            refine wa_aload_n (i := 0) rfl rfl ?_
            refine wa_getr ck_12 fl_12_117 ly_84 rf_84_44 ?_
            refine wa_iload rfl ?_
            refine wa_iald ly_195 (by ((try simp only [vp_in_iff, Int32.lt_iff_toInt_lt, Int32.le_iff_toInt_le, ← Int32.toInt_inj, Int32.reduceToInt, n_1, n_2, n_8, Int32.toNatClampNeg, Int64.lt_iff_toInt_lt, Int64.le_iff_toInt_le, ← Int64.toInt_inj, Int64.reduceToInt, Int32.toInt_toInt64, lg_cmp_ge, lg_cmp_le, lg_cmp_gt, lg_cmp_lt, lg_cmp_eq, Bool.false_eq_true, Bool.true_eq_false, reduceCtorEq, false_iff, true_iff, iff_true, iff_false, and_true, true_and, and_false, false_and, reduceIte, ite_true, ite_false, eq_self] at *)) <;> omega) ?_
            refine wa_top (fun v9 hv9 => ?_)
            have rv9 := nok_next P_NOK (s := (a0).toNatClampNeg) (by ((try simp only [vp_in_iff, Int32.lt_iff_toInt_lt, Int32.le_iff_toInt_le, ← Int32.toInt_inj, Int32.reduceToInt, n_1, n_2, n_8, Int32.toNatClampNeg, Int64.lt_iff_toInt_lt, Int64.le_iff_toInt_le, ← Int64.toInt_inj, Int64.reduceToInt, Int32.toInt_toInt64, lg_cmp_ge, lg_cmp_le, lg_cmp_gt, lg_cmp_lt, lg_cmp_eq, Bool.false_eq_true, Bool.true_eq_false, reduceCtorEq, false_iff, true_iff, iff_true, iff_false, and_true, true_and, and_false, false_and, reduceIte, ite_true, ite_false, eq_self] at *)) <;> omega) (by ((try simp only [vp_in_iff, Int32.lt_iff_toInt_lt, Int32.le_iff_toInt_le, ← Int32.toInt_inj, Int32.reduceToInt, n_1, n_2, n_8, Int32.toNatClampNeg, Int64.lt_iff_toInt_lt, Int64.le_iff_toInt_le, ← Int64.toInt_inj, Int64.reduceToInt, Int32.toInt_toInt64, lg_cmp_ge, lg_cmp_le, lg_cmp_gt, lg_cmp_lt, lg_cmp_eq, Bool.false_eq_true, Bool.true_eq_false, reduceCtorEq, false_iff, true_iff, iff_true, iff_false, and_true, true_and, and_false, false_and, reduceIte, ite_true, ite_false, eq_self] at *)) <;> omega) (by ((try simp only [vp_in_iff, Int32.lt_iff_toInt_lt, Int32.le_iff_toInt_le, ← Int32.toInt_inj, Int32.reduceToInt, n_1, n_2, n_8, Int32.toNatClampNeg, Int64.lt_iff_toInt_lt, Int64.le_iff_toInt_le, ← Int64.toInt_inj, Int64.reduceToInt, Int32.toInt_toInt64, lg_cmp_ge, lg_cmp_le, lg_cmp_gt, lg_cmp_lt, lg_cmp_eq, Bool.false_eq_true, Bool.true_eq_false, reduceCtorEq, false_iff, true_iff, iff_true, iff_false, and_true, true_and, and_false, false_and, reduceIte, ite_true, ite_false, eq_self] at *)) <;> omega) hv9
            clear hv9
            refine wa_istoreD (lv' := [(4, .int v9), (3, .int (bI false)), (0, .ref 84)]) (by decide) rfl ?_
            refine wa_goto o_X12_isNode_219 (by decide) ?_
            refine wa_pick [2, 1, 0] rfl ?_
            exact ih5 _ (by ((try simp only [vp_in_iff, Int32.lt_iff_toInt_lt, Int32.le_iff_toInt_le, ← Int32.toInt_inj, Int32.reduceToInt, n_1, n_2, n_8, Int32.toNatClampNeg, Int64.lt_iff_toInt_lt, Int64.le_iff_toInt_le, ← Int64.toInt_inj, Int64.reduceToInt, Int32.toInt_toInt64, lg_cmp_ge, lg_cmp_le, lg_cmp_gt, lg_cmp_lt, lg_cmp_eq, Bool.false_eq_true, Bool.true_eq_false, reduceCtorEq, false_iff, true_iff, iff_true, iff_false, and_true, true_and, and_false, false_and, reduceIte, ite_true, ite_false, eq_self] at *)) <;> omega) _ _ ⟨(by ((try simp only [vp_in_iff, Int32.lt_iff_toInt_lt, Int32.le_iff_toInt_le, ← Int32.toInt_inj, Int32.reduceToInt, n_1, n_2, n_8, Int32.toNatClampNeg, Int64.lt_iff_toInt_lt, Int64.le_iff_toInt_le, ← Int64.toInt_inj, Int64.reduceToInt, Int32.toInt_toInt64, lg_cmp_ge, lg_cmp_le, lg_cmp_gt, lg_cmp_lt, lg_cmp_eq, Bool.false_eq_true, Bool.true_eq_false, reduceCtorEq, false_iff, true_iff, iff_true, iff_false, and_true, true_and, and_false, false_and, reduceIte, ite_true, ite_false, eq_self] at *)) <;> omega), trivial⟩ rfl
          · replace h8 := bI_t (b := l3) (rfl) h8
            refine wa_aload_n (i := 0) rfl rfl ?_
            refine wa_getr ck_12 fl_12_313 ly_84 rf_84_124 ?_
            refine wa_iload rfl ?_
            refine wa_zald ly_130 (by ((try simp only [vp_in_iff, Int32.lt_iff_toInt_lt, Int32.le_iff_toInt_le, ← Int32.toInt_inj, Int32.reduceToInt, n_1, n_2, n_8, Int32.toNatClampNeg, Int64.lt_iff_toInt_lt, Int64.le_iff_toInt_le, ← Int64.toInt_inj, Int64.reduceToInt, Int32.toInt_toInt64, lg_cmp_ge, lg_cmp_le, lg_cmp_gt, lg_cmp_lt, lg_cmp_eq, Bool.false_eq_true, Bool.true_eq_false, reduceCtorEq, false_iff, true_iff, iff_true, iff_false, and_true, true_and, and_false, false_and, reduceIte, ite_true, ite_false, eq_self] at *)) <;> omega) ?_
            refine wa_if_eq o_X12_isNode_243 (by decide) (fun h10 => ?_) (fun h10 => ?_)
            · replace h10 := bI_f (b := (gb σ 130 (l4).toNatClampNeg)) (rfl) h10
              refine wa_iconst (v := 0) (by decide) ?_
              refine wa_istore_nD (lv' := [(3, .int (bI false)), (0, .ref 84), (4, .int l4)]) (i := 3) rfl (by decide) rfl ?_
              refine wa_aload_n (i := 0) rfl rfl ?_
              refine wa_getr ck_12 fl_12_117 ly_84 rf_84_44 ?_
              refine wa_iload rfl ?_
              refine wa_iald ly_195 (by ((try simp only [vp_in_iff, Int32.lt_iff_toInt_lt, Int32.le_iff_toInt_le, ← Int32.toInt_inj, Int32.reduceToInt, n_1, n_2, n_8, Int32.toNatClampNeg, Int64.lt_iff_toInt_lt, Int64.le_iff_toInt_le, ← Int64.toInt_inj, Int64.reduceToInt, Int32.toInt_toInt64, lg_cmp_ge, lg_cmp_le, lg_cmp_gt, lg_cmp_lt, lg_cmp_eq, Bool.false_eq_true, Bool.true_eq_false, reduceCtorEq, false_iff, true_iff, iff_true, iff_false, and_true, true_and, and_false, false_and, reduceIte, ite_true, ite_false, eq_self] at *)) <;> omega) ?_
              refine wa_top (fun v11 hv11 => ?_)
              have rv11 := nok_next P_NOK (s := (a0).toNatClampNeg) (by ((try simp only [vp_in_iff, Int32.lt_iff_toInt_lt, Int32.le_iff_toInt_le, ← Int32.toInt_inj, Int32.reduceToInt, n_1, n_2, n_8, Int32.toNatClampNeg, Int64.lt_iff_toInt_lt, Int64.le_iff_toInt_le, ← Int64.toInt_inj, Int64.reduceToInt, Int32.toInt_toInt64, lg_cmp_ge, lg_cmp_le, lg_cmp_gt, lg_cmp_lt, lg_cmp_eq, Bool.false_eq_true, Bool.true_eq_false, reduceCtorEq, false_iff, true_iff, iff_true, iff_false, and_true, true_and, and_false, false_and, reduceIte, ite_true, ite_false, eq_self] at *)) <;> omega) (by ((try simp only [vp_in_iff, Int32.lt_iff_toInt_lt, Int32.le_iff_toInt_le, ← Int32.toInt_inj, Int32.reduceToInt, n_1, n_2, n_8, Int32.toNatClampNeg, Int64.lt_iff_toInt_lt, Int64.le_iff_toInt_le, ← Int64.toInt_inj, Int64.reduceToInt, Int32.toInt_toInt64, lg_cmp_ge, lg_cmp_le, lg_cmp_gt, lg_cmp_lt, lg_cmp_eq, Bool.false_eq_true, Bool.true_eq_false, reduceCtorEq, false_iff, true_iff, iff_true, iff_false, and_true, true_and, and_false, false_and, reduceIte, ite_true, ite_false, eq_self] at *)) <;> omega) (by ((try simp only [vp_in_iff, Int32.lt_iff_toInt_lt, Int32.le_iff_toInt_le, ← Int32.toInt_inj, Int32.reduceToInt, n_1, n_2, n_8, Int32.toNatClampNeg, Int64.lt_iff_toInt_lt, Int64.le_iff_toInt_le, ← Int64.toInt_inj, Int64.reduceToInt, Int32.toInt_toInt64, lg_cmp_ge, lg_cmp_le, lg_cmp_gt, lg_cmp_lt, lg_cmp_eq, Bool.false_eq_true, Bool.true_eq_false, reduceCtorEq, false_iff, true_iff, iff_true, iff_false, and_true, true_and, and_false, false_and, reduceIte, ite_true, ite_false, eq_self] at *)) <;> omega) hv11
              clear hv11
              refine wa_istoreD (lv' := [(4, .int v11), (3, .int (bI false)), (0, .ref 84)]) (by decide) rfl ?_
              refine wa_goto o_X12_isNode_219 (by decide) ?_
              refine wa_pick [2, 1, 0] rfl ?_
              exact ih5 _ (by ((try simp only [vp_in_iff, Int32.lt_iff_toInt_lt, Int32.le_iff_toInt_le, ← Int32.toInt_inj, Int32.reduceToInt, n_1, n_2, n_8, Int32.toNatClampNeg, Int64.lt_iff_toInt_lt, Int64.le_iff_toInt_le, ← Int64.toInt_inj, Int64.reduceToInt, Int32.toInt_toInt64, lg_cmp_ge, lg_cmp_le, lg_cmp_gt, lg_cmp_lt, lg_cmp_eq, Bool.false_eq_true, Bool.true_eq_false, reduceCtorEq, false_iff, true_iff, iff_true, iff_false, and_true, true_and, and_false, false_and, reduceIte, ite_true, ite_false, eq_self] at *)) <;> omega) _ _ ⟨(by ((try simp only [vp_in_iff, Int32.lt_iff_toInt_lt, Int32.le_iff_toInt_le, ← Int32.toInt_inj, Int32.reduceToInt, n_1, n_2, n_8, Int32.toNatClampNeg, Int64.lt_iff_toInt_lt, Int64.le_iff_toInt_le, ← Int64.toInt_inj, Int64.reduceToInt, Int32.toInt_toInt64, lg_cmp_ge, lg_cmp_le, lg_cmp_gt, lg_cmp_lt, lg_cmp_eq, Bool.false_eq_true, Bool.true_eq_false, reduceCtorEq, false_iff, true_iff, iff_true, iff_false, and_true, true_and, and_false, false_and, reduceIte, ite_true, ite_false, eq_self] at *)) <;> omega), trivial⟩ rfl
            · replace h10 := bI_t (b := (gb σ 130 (l4).toNatClampNeg)) (rfl) h10
              refine wa_iconst (v := 1) (by decide) ?_
              refine wa_goto o_X12_isNode_244 (by decide) ?_
              refine wa_istore_nD (lv' := [(3, .int (bI true)), (0, .ref 84), (4, .int l4)]) (i := 3) rfl (by decide) rfl ?_
              refine wa_aload_n (i := 0) rfl rfl ?_
              refine wa_getr ck_12 fl_12_117 ly_84 rf_84_44 ?_
              refine wa_iload rfl ?_
              refine wa_iald ly_195 (by ((try simp only [vp_in_iff, Int32.lt_iff_toInt_lt, Int32.le_iff_toInt_le, ← Int32.toInt_inj, Int32.reduceToInt, n_1, n_2, n_8, Int32.toNatClampNeg, Int64.lt_iff_toInt_lt, Int64.le_iff_toInt_le, ← Int64.toInt_inj, Int64.reduceToInt, Int32.toInt_toInt64, lg_cmp_ge, lg_cmp_le, lg_cmp_gt, lg_cmp_lt, lg_cmp_eq, Bool.false_eq_true, Bool.true_eq_false, reduceCtorEq, false_iff, true_iff, iff_true, iff_false, and_true, true_and, and_false, false_and, reduceIte, ite_true, ite_false, eq_self] at *)) <;> omega) ?_
              refine wa_top (fun v12 hv12 => ?_)
              have rv12 := nok_next P_NOK (s := (a0).toNatClampNeg) (by ((try simp only [vp_in_iff, Int32.lt_iff_toInt_lt, Int32.le_iff_toInt_le, ← Int32.toInt_inj, Int32.reduceToInt, n_1, n_2, n_8, Int32.toNatClampNeg, Int64.lt_iff_toInt_lt, Int64.le_iff_toInt_le, ← Int64.toInt_inj, Int64.reduceToInt, Int32.toInt_toInt64, lg_cmp_ge, lg_cmp_le, lg_cmp_gt, lg_cmp_lt, lg_cmp_eq, Bool.false_eq_true, Bool.true_eq_false, reduceCtorEq, false_iff, true_iff, iff_true, iff_false, and_true, true_and, and_false, false_and, reduceIte, ite_true, ite_false, eq_self] at *)) <;> omega) (by ((try simp only [vp_in_iff, Int32.lt_iff_toInt_lt, Int32.le_iff_toInt_le, ← Int32.toInt_inj, Int32.reduceToInt, n_1, n_2, n_8, Int32.toNatClampNeg, Int64.lt_iff_toInt_lt, Int64.le_iff_toInt_le, ← Int64.toInt_inj, Int64.reduceToInt, Int32.toInt_toInt64, lg_cmp_ge, lg_cmp_le, lg_cmp_gt, lg_cmp_lt, lg_cmp_eq, Bool.false_eq_true, Bool.true_eq_false, reduceCtorEq, false_iff, true_iff, iff_true, iff_false, and_true, true_and, and_false, false_and, reduceIte, ite_true, ite_false, eq_self] at *)) <;> omega) (by ((try simp only [vp_in_iff, Int32.lt_iff_toInt_lt, Int32.le_iff_toInt_le, ← Int32.toInt_inj, Int32.reduceToInt, n_1, n_2, n_8, Int32.toNatClampNeg, Int64.lt_iff_toInt_lt, Int64.le_iff_toInt_le, ← Int64.toInt_inj, Int64.reduceToInt, Int32.toInt_toInt64, lg_cmp_ge, lg_cmp_le, lg_cmp_gt, lg_cmp_lt, lg_cmp_eq, Bool.false_eq_true, Bool.true_eq_false, reduceCtorEq, false_iff, true_iff, iff_true, iff_false, and_true, true_and, and_false, false_and, reduceIte, ite_true, ite_false, eq_self] at *)) <;> omega) hv12
              clear hv12
              refine wa_istoreD (lv' := [(4, .int v12), (3, .int (bI true)), (0, .ref 84)]) (by decide) rfl ?_
              refine wa_goto o_X12_isNode_219 (by decide) ?_
              refine wa_pick [2, 1, 0] rfl ?_
              exact ih5 _ (by ((try simp only [vp_in_iff, Int32.lt_iff_toInt_lt, Int32.le_iff_toInt_le, ← Int32.toInt_inj, Int32.reduceToInt, n_1, n_2, n_8, Int32.toNatClampNeg, Int64.lt_iff_toInt_lt, Int64.le_iff_toInt_le, ← Int64.toInt_inj, Int64.reduceToInt, Int32.toInt_toInt64, lg_cmp_ge, lg_cmp_le, lg_cmp_gt, lg_cmp_lt, lg_cmp_eq, Bool.false_eq_true, Bool.true_eq_false, reduceCtorEq, false_iff, true_iff, iff_true, iff_false, and_true, true_and, and_false, false_and, reduceIte, ite_true, ite_false, eq_self] at *)) <;> omega) _ _ ⟨(by ((try simp only [vp_in_iff, Int32.lt_iff_toInt_lt, Int32.le_iff_toInt_le, ← Int32.toInt_inj, Int32.reduceToInt, n_1, n_2, n_8, Int32.toNatClampNeg, Int64.lt_iff_toInt_lt, Int64.le_iff_toInt_le, ← Int64.toInt_inj, Int64.reduceToInt, Int32.toInt_toInt64, lg_cmp_ge, lg_cmp_le, lg_cmp_gt, lg_cmp_lt, lg_cmp_eq, Bool.false_eq_true, Bool.true_eq_false, reduceCtorEq, false_iff, true_iff, iff_true, iff_false, and_true, true_and, and_false, false_and, reduceIte, ite_true, ite_false, eq_self] at *)) <;> omega), trivial⟩ rfl
    exact hi6 _ _ _ ⟨(by ((try simp only [vp_in_iff, Int32.lt_iff_toInt_lt, Int32.le_iff_toInt_le, ← Int32.toInt_inj, Int32.reduceToInt, n_1, n_2, n_8, Int32.toNatClampNeg, Int64.lt_iff_toInt_lt, Int64.le_iff_toInt_le, ← Int64.toInt_inj, Int64.reduceToInt, Int32.toInt_toInt64, lg_cmp_ge, lg_cmp_le, lg_cmp_gt, lg_cmp_lt, lg_cmp_eq, Bool.false_eq_true, Bool.true_eq_false, reduceCtorEq, false_iff, true_iff, iff_true, iff_false, and_true, true_and, and_false, false_and, reduceIte, ite_true, ite_false, eq_self] at *)) <;> omega), trivial⟩ rfl
  ·
    by_cases h13 : q2 = 4
    · refine wa_tIn (by rw [h13]; decide) (by rw [h13]; decide) (by rw [h13] <;> rfl) o_X12_isNode_259 (by decide) ?_
      refine wa_iconst (v := 0) (by decide) ?_
      refine wa_istore_nD (lv' := [(3, .int (bI false)), (0, .ref 84), (1, .int a0), (2, .int a1)]) (i := 3) rfl (by decide) rfl ?_
      refine wa_aload_n (i := 0) rfl rfl ?_
      refine wa_getr ck_12 fl_12_111 ly_84 rf_84_42 ?_
      refine wa_iload_n (i := 2) rfl rfl ?_
      refine wa_iald ly_197 (by ((try simp only [vp_in_iff, Int32.lt_iff_toInt_lt, Int32.le_iff_toInt_le, ← Int32.toInt_inj, Int32.reduceToInt, n_1, n_2, n_8, Int32.toNatClampNeg, Int64.lt_iff_toInt_lt, Int64.le_iff_toInt_le, ← Int64.toInt_inj, Int64.reduceToInt, Int32.toInt_toInt64, lg_cmp_ge, lg_cmp_le, lg_cmp_gt, lg_cmp_lt, lg_cmp_eq, Bool.false_eq_true, Bool.true_eq_false, reduceCtorEq, false_iff, true_iff, iff_true, iff_false, and_true, true_and, and_false, false_and, reduceIte, ite_true, ite_false, eq_self] at *)) <;> omega) ?_
      refine wa_top (fun v14 hv14 => ?_)
      have qv14 := hv14
      clear hv14
      refine wa_istoreD (lv' := [(4, .int v14), (3, .int (bI false)), (0, .ref 84), (1, .int a0), (2, .int a1)]) (by decide) rfl ?_
      refine wa_pick [2, 1, 0] rfl ?_
      have hi16 : ∀ (n9_269 : Nat) (l3 : Bool) (l4 : Int32), ((l4.toInt = -1 ∨ (250 * a0.toInt ≤ l4.toInt ∧ l4.toInt < 250 * a0.toInt + (gi σ 194 (a0).toNatClampNeg).toInt)) ∧ (True)) → (6501 - (l4.toInt + 6502) % 6502).toNat = n9_269 → WA G M_X12_isNode (ZM G M_X12_isNode d (fun r σ' => ∃ x : Bool, r = some (.int (bI x)) ∧ σ = σ' ∧ True)) B_X12_isNode_269 [(0, .ref 84), (3, .int (bI l3)), (4, .int l4)] [] σ := by
        intro n9_269
        induction n9_269 using Nat.strongRecOn with
        | _ n9_269 ih15 =>
          intro l3 l4  i9 m9_269
          obtain ⟨jhi16_0, -⟩ := i9
          have ul4 := Int32.toInt_lt l4
          have wl4 := Int32.le_toInt l4
          refine wa_iload rfl ?_
          refine wa_iconst (v := (-1)) (by decide) ?_
          refine wa_icmp_eq o_X12_isNode_307 (by decide) (fun h17 => ?_) (fun h17 => ?_)
          · refine wa_iload_n (i := 3) rfl rfl ?_
            refine wa_zreturn l3 (rfl) rfl rfl ?_
            exact ⟨_, rfl, rfl, trivial⟩
          · refine wa_iload_n (i := 3) rfl rfl ?_
            refine wa_if_ne o_X12_isNode_289 (by decide) (fun h18 => ?_) (fun h18 => ?_)
            · replace h18 := bI_t (b := l3) (rfl) h18
              refine wa_iconst (v := 1) (by decide) ?_
              refine wa_goto o_X12_isNode_294 (by decide) ?_
              refine wa_istore_nD (lv' := [(3, .int (bI true)), (0, .ref 84), (4, .int l4)]) (i := 3) rfl (by decide) rfl ?_
              refine wa_aload_n (i := 0) rfl rfl ?_
              refine wa_getr ck_12 fl_12_117 ly_84 rf_84_44 ?_
              refine wa_iload rfl ?_
              refine wa_iald ly_195 (by ((try simp only [vp_in_iff, Int32.lt_iff_toInt_lt, Int32.le_iff_toInt_le, ← Int32.toInt_inj, Int32.reduceToInt, n_1, n_2, n_8, Int32.toNatClampNeg, Int64.lt_iff_toInt_lt, Int64.le_iff_toInt_le, ← Int64.toInt_inj, Int64.reduceToInt, Int32.toInt_toInt64, lg_cmp_ge, lg_cmp_le, lg_cmp_gt, lg_cmp_lt, lg_cmp_eq, Bool.false_eq_true, Bool.true_eq_false, reduceCtorEq, false_iff, true_iff, iff_true, iff_false, and_true, true_and, and_false, false_and, reduceIte, ite_true, ite_false, eq_self] at *)) <;> omega) ?_
              refine wa_top (fun v19 hv19 => ?_)
              have rv19 := nok_next P_NOK (s := (a0).toNatClampNeg) (by ((try simp only [vp_in_iff, Int32.lt_iff_toInt_lt, Int32.le_iff_toInt_le, ← Int32.toInt_inj, Int32.reduceToInt, n_1, n_2, n_8, Int32.toNatClampNeg, Int64.lt_iff_toInt_lt, Int64.le_iff_toInt_le, ← Int64.toInt_inj, Int64.reduceToInt, Int32.toInt_toInt64, lg_cmp_ge, lg_cmp_le, lg_cmp_gt, lg_cmp_lt, lg_cmp_eq, Bool.false_eq_true, Bool.true_eq_false, reduceCtorEq, false_iff, true_iff, iff_true, iff_false, and_true, true_and, and_false, false_and, reduceIte, ite_true, ite_false, eq_self] at *)) <;> omega) (by ((try simp only [vp_in_iff, Int32.lt_iff_toInt_lt, Int32.le_iff_toInt_le, ← Int32.toInt_inj, Int32.reduceToInt, n_1, n_2, n_8, Int32.toNatClampNeg, Int64.lt_iff_toInt_lt, Int64.le_iff_toInt_le, ← Int64.toInt_inj, Int64.reduceToInt, Int32.toInt_toInt64, lg_cmp_ge, lg_cmp_le, lg_cmp_gt, lg_cmp_lt, lg_cmp_eq, Bool.false_eq_true, Bool.true_eq_false, reduceCtorEq, false_iff, true_iff, iff_true, iff_false, and_true, true_and, and_false, false_and, reduceIte, ite_true, ite_false, eq_self] at *)) <;> omega) (by ((try simp only [vp_in_iff, Int32.lt_iff_toInt_lt, Int32.le_iff_toInt_le, ← Int32.toInt_inj, Int32.reduceToInt, n_1, n_2, n_8, Int32.toNatClampNeg, Int64.lt_iff_toInt_lt, Int64.le_iff_toInt_le, ← Int64.toInt_inj, Int64.reduceToInt, Int32.toInt_toInt64, lg_cmp_ge, lg_cmp_le, lg_cmp_gt, lg_cmp_lt, lg_cmp_eq, Bool.false_eq_true, Bool.true_eq_false, reduceCtorEq, false_iff, true_iff, iff_true, iff_false, and_true, true_and, and_false, false_and, reduceIte, ite_true, ite_false, eq_self] at *)) <;> omega) hv19
              clear hv19
              refine wa_istoreD (lv' := [(4, .int v19), (3, .int (bI true)), (0, .ref 84)]) (by decide) rfl ?_
              refine wa_goto o_X12_isNode_269 (by decide) ?_
              refine wa_pick [2, 1, 0] rfl ?_
              exact ih15 _ (by ((try simp only [vp_in_iff, Int32.lt_iff_toInt_lt, Int32.le_iff_toInt_le, ← Int32.toInt_inj, Int32.reduceToInt, n_1, n_2, n_8, Int32.toNatClampNeg, Int64.lt_iff_toInt_lt, Int64.le_iff_toInt_le, ← Int64.toInt_inj, Int64.reduceToInt, Int32.toInt_toInt64, lg_cmp_ge, lg_cmp_le, lg_cmp_gt, lg_cmp_lt, lg_cmp_eq, Bool.false_eq_true, Bool.true_eq_false, reduceCtorEq, false_iff, true_iff, iff_true, iff_false, and_true, true_and, and_false, false_and, reduceIte, ite_true, ite_false, eq_self] at *)) <;> omega) _ _ ⟨(by ((try simp only [vp_in_iff, Int32.lt_iff_toInt_lt, Int32.le_iff_toInt_le, ← Int32.toInt_inj, Int32.reduceToInt, n_1, n_2, n_8, Int32.toNatClampNeg, Int64.lt_iff_toInt_lt, Int64.le_iff_toInt_le, ← Int64.toInt_inj, Int64.reduceToInt, Int32.toInt_toInt64, lg_cmp_ge, lg_cmp_le, lg_cmp_gt, lg_cmp_lt, lg_cmp_eq, Bool.false_eq_true, Bool.true_eq_false, reduceCtorEq, false_iff, true_iff, iff_true, iff_false, and_true, true_and, and_false, false_and, reduceIte, ite_true, ite_false, eq_self] at *)) <;> omega), trivial⟩ rfl
            · replace h18 := bI_f (b := l3) (rfl) h18
              refine wa_aload_n (i := 0) rfl rfl ?_
              refine wa_getr ck_12 fl_12_313 ly_84 rf_84_124 ?_
              refine wa_iload rfl ?_
              refine wa_zald ly_130 (by ((try simp only [vp_in_iff, Int32.lt_iff_toInt_lt, Int32.le_iff_toInt_le, ← Int32.toInt_inj, Int32.reduceToInt, n_1, n_2, n_8, Int32.toNatClampNeg, Int64.lt_iff_toInt_lt, Int64.le_iff_toInt_le, ← Int64.toInt_inj, Int64.reduceToInt, Int32.toInt_toInt64, lg_cmp_ge, lg_cmp_le, lg_cmp_gt, lg_cmp_lt, lg_cmp_eq, Bool.false_eq_true, Bool.true_eq_false, reduceCtorEq, false_iff, true_iff, iff_true, iff_false, and_true, true_and, and_false, false_and, reduceIte, ite_true, ite_false, eq_self] at *)) <;> omega) ?_
              refine wa_if_eq o_X12_isNode_293 (by decide) (fun h20 => ?_) (fun h20 => ?_)
              · replace h20 := bI_f (b := (gb σ 130 (l4).toNatClampNeg)) (rfl) h20
                refine wa_iconst (v := 0) (by decide) ?_
                refine wa_istore_nD (lv' := [(3, .int (bI false)), (0, .ref 84), (4, .int l4)]) (i := 3) rfl (by decide) rfl ?_
                refine wa_aload_n (i := 0) rfl rfl ?_
                refine wa_getr ck_12 fl_12_117 ly_84 rf_84_44 ?_
                refine wa_iload rfl ?_
                refine wa_iald ly_195 (by ((try simp only [vp_in_iff, Int32.lt_iff_toInt_lt, Int32.le_iff_toInt_le, ← Int32.toInt_inj, Int32.reduceToInt, n_1, n_2, n_8, Int32.toNatClampNeg, Int64.lt_iff_toInt_lt, Int64.le_iff_toInt_le, ← Int64.toInt_inj, Int64.reduceToInt, Int32.toInt_toInt64, lg_cmp_ge, lg_cmp_le, lg_cmp_gt, lg_cmp_lt, lg_cmp_eq, Bool.false_eq_true, Bool.true_eq_false, reduceCtorEq, false_iff, true_iff, iff_true, iff_false, and_true, true_and, and_false, false_and, reduceIte, ite_true, ite_false, eq_self] at *)) <;> omega) ?_
                refine wa_top (fun v21 hv21 => ?_)
                have rv21 := nok_next P_NOK (s := (a0).toNatClampNeg) (by ((try simp only [vp_in_iff, Int32.lt_iff_toInt_lt, Int32.le_iff_toInt_le, ← Int32.toInt_inj, Int32.reduceToInt, n_1, n_2, n_8, Int32.toNatClampNeg, Int64.lt_iff_toInt_lt, Int64.le_iff_toInt_le, ← Int64.toInt_inj, Int64.reduceToInt, Int32.toInt_toInt64, lg_cmp_ge, lg_cmp_le, lg_cmp_gt, lg_cmp_lt, lg_cmp_eq, Bool.false_eq_true, Bool.true_eq_false, reduceCtorEq, false_iff, true_iff, iff_true, iff_false, and_true, true_and, and_false, false_and, reduceIte, ite_true, ite_false, eq_self] at *)) <;> omega) (by ((try simp only [vp_in_iff, Int32.lt_iff_toInt_lt, Int32.le_iff_toInt_le, ← Int32.toInt_inj, Int32.reduceToInt, n_1, n_2, n_8, Int32.toNatClampNeg, Int64.lt_iff_toInt_lt, Int64.le_iff_toInt_le, ← Int64.toInt_inj, Int64.reduceToInt, Int32.toInt_toInt64, lg_cmp_ge, lg_cmp_le, lg_cmp_gt, lg_cmp_lt, lg_cmp_eq, Bool.false_eq_true, Bool.true_eq_false, reduceCtorEq, false_iff, true_iff, iff_true, iff_false, and_true, true_and, and_false, false_and, reduceIte, ite_true, ite_false, eq_self] at *)) <;> omega) (by ((try simp only [vp_in_iff, Int32.lt_iff_toInt_lt, Int32.le_iff_toInt_le, ← Int32.toInt_inj, Int32.reduceToInt, n_1, n_2, n_8, Int32.toNatClampNeg, Int64.lt_iff_toInt_lt, Int64.le_iff_toInt_le, ← Int64.toInt_inj, Int64.reduceToInt, Int32.toInt_toInt64, lg_cmp_ge, lg_cmp_le, lg_cmp_gt, lg_cmp_lt, lg_cmp_eq, Bool.false_eq_true, Bool.true_eq_false, reduceCtorEq, false_iff, true_iff, iff_true, iff_false, and_true, true_and, and_false, false_and, reduceIte, ite_true, ite_false, eq_self] at *)) <;> omega) hv21
                clear hv21
                refine wa_istoreD (lv' := [(4, .int v21), (3, .int (bI false)), (0, .ref 84)]) (by decide) rfl ?_
                refine wa_goto o_X12_isNode_269 (by decide) ?_
                refine wa_pick [2, 1, 0] rfl ?_
                exact ih15 _ (by ((try simp only [vp_in_iff, Int32.lt_iff_toInt_lt, Int32.le_iff_toInt_le, ← Int32.toInt_inj, Int32.reduceToInt, n_1, n_2, n_8, Int32.toNatClampNeg, Int64.lt_iff_toInt_lt, Int64.le_iff_toInt_le, ← Int64.toInt_inj, Int64.reduceToInt, Int32.toInt_toInt64, lg_cmp_ge, lg_cmp_le, lg_cmp_gt, lg_cmp_lt, lg_cmp_eq, Bool.false_eq_true, Bool.true_eq_false, reduceCtorEq, false_iff, true_iff, iff_true, iff_false, and_true, true_and, and_false, false_and, reduceIte, ite_true, ite_false, eq_self] at *)) <;> omega) _ _ ⟨(by ((try simp only [vp_in_iff, Int32.lt_iff_toInt_lt, Int32.le_iff_toInt_le, ← Int32.toInt_inj, Int32.reduceToInt, n_1, n_2, n_8, Int32.toNatClampNeg, Int64.lt_iff_toInt_lt, Int64.le_iff_toInt_le, ← Int64.toInt_inj, Int64.reduceToInt, Int32.toInt_toInt64, lg_cmp_ge, lg_cmp_le, lg_cmp_gt, lg_cmp_lt, lg_cmp_eq, Bool.false_eq_true, Bool.true_eq_false, reduceCtorEq, false_iff, true_iff, iff_true, iff_false, and_true, true_and, and_false, false_and, reduceIte, ite_true, ite_false, eq_self] at *)) <;> omega), trivial⟩ rfl
              · replace h20 := bI_t (b := (gb σ 130 (l4).toNatClampNeg)) (rfl) h20
                refine wa_iconst (v := 1) (by decide) ?_
                refine wa_goto o_X12_isNode_294 (by decide) ?_
                refine wa_istore_nD (lv' := [(3, .int (bI true)), (0, .ref 84), (4, .int l4)]) (i := 3) rfl (by decide) rfl ?_
                refine wa_aload_n (i := 0) rfl rfl ?_
                refine wa_getr ck_12 fl_12_117 ly_84 rf_84_44 ?_
                refine wa_iload rfl ?_
                refine wa_iald ly_195 (by ((try simp only [vp_in_iff, Int32.lt_iff_toInt_lt, Int32.le_iff_toInt_le, ← Int32.toInt_inj, Int32.reduceToInt, n_1, n_2, n_8, Int32.toNatClampNeg, Int64.lt_iff_toInt_lt, Int64.le_iff_toInt_le, ← Int64.toInt_inj, Int64.reduceToInt, Int32.toInt_toInt64, lg_cmp_ge, lg_cmp_le, lg_cmp_gt, lg_cmp_lt, lg_cmp_eq, Bool.false_eq_true, Bool.true_eq_false, reduceCtorEq, false_iff, true_iff, iff_true, iff_false, and_true, true_and, and_false, false_and, reduceIte, ite_true, ite_false, eq_self] at *)) <;> omega) ?_
                refine wa_top (fun v22 hv22 => ?_)
                have rv22 := nok_next P_NOK (s := (a0).toNatClampNeg) (by ((try simp only [vp_in_iff, Int32.lt_iff_toInt_lt, Int32.le_iff_toInt_le, ← Int32.toInt_inj, Int32.reduceToInt, n_1, n_2, n_8, Int32.toNatClampNeg, Int64.lt_iff_toInt_lt, Int64.le_iff_toInt_le, ← Int64.toInt_inj, Int64.reduceToInt, Int32.toInt_toInt64, lg_cmp_ge, lg_cmp_le, lg_cmp_gt, lg_cmp_lt, lg_cmp_eq, Bool.false_eq_true, Bool.true_eq_false, reduceCtorEq, false_iff, true_iff, iff_true, iff_false, and_true, true_and, and_false, false_and, reduceIte, ite_true, ite_false, eq_self] at *)) <;> omega) (by ((try simp only [vp_in_iff, Int32.lt_iff_toInt_lt, Int32.le_iff_toInt_le, ← Int32.toInt_inj, Int32.reduceToInt, n_1, n_2, n_8, Int32.toNatClampNeg, Int64.lt_iff_toInt_lt, Int64.le_iff_toInt_le, ← Int64.toInt_inj, Int64.reduceToInt, Int32.toInt_toInt64, lg_cmp_ge, lg_cmp_le, lg_cmp_gt, lg_cmp_lt, lg_cmp_eq, Bool.false_eq_true, Bool.true_eq_false, reduceCtorEq, false_iff, true_iff, iff_true, iff_false, and_true, true_and, and_false, false_and, reduceIte, ite_true, ite_false, eq_self] at *)) <;> omega) (by ((try simp only [vp_in_iff, Int32.lt_iff_toInt_lt, Int32.le_iff_toInt_le, ← Int32.toInt_inj, Int32.reduceToInt, n_1, n_2, n_8, Int32.toNatClampNeg, Int64.lt_iff_toInt_lt, Int64.le_iff_toInt_le, ← Int64.toInt_inj, Int64.reduceToInt, Int32.toInt_toInt64, lg_cmp_ge, lg_cmp_le, lg_cmp_gt, lg_cmp_lt, lg_cmp_eq, Bool.false_eq_true, Bool.true_eq_false, reduceCtorEq, false_iff, true_iff, iff_true, iff_false, and_true, true_and, and_false, false_and, reduceIte, ite_true, ite_false, eq_self] at *)) <;> omega) hv22
                clear hv22
                refine wa_istoreD (lv' := [(4, .int v22), (3, .int (bI true)), (0, .ref 84)]) (by decide) rfl ?_
                refine wa_goto o_X12_isNode_269 (by decide) ?_
                refine wa_pick [2, 1, 0] rfl ?_
                exact ih15 _ (by ((try simp only [vp_in_iff, Int32.lt_iff_toInt_lt, Int32.le_iff_toInt_le, ← Int32.toInt_inj, Int32.reduceToInt, n_1, n_2, n_8, Int32.toNatClampNeg, Int64.lt_iff_toInt_lt, Int64.le_iff_toInt_le, ← Int64.toInt_inj, Int64.reduceToInt, Int32.toInt_toInt64, lg_cmp_ge, lg_cmp_le, lg_cmp_gt, lg_cmp_lt, lg_cmp_eq, Bool.false_eq_true, Bool.true_eq_false, reduceCtorEq, false_iff, true_iff, iff_true, iff_false, and_true, true_and, and_false, false_and, reduceIte, ite_true, ite_false, eq_self] at *)) <;> omega) _ _ ⟨(by ((try simp only [vp_in_iff, Int32.lt_iff_toInt_lt, Int32.le_iff_toInt_le, ← Int32.toInt_inj, Int32.reduceToInt, n_1, n_2, n_8, Int32.toNatClampNeg, Int64.lt_iff_toInt_lt, Int64.le_iff_toInt_le, ← Int64.toInt_inj, Int64.reduceToInt, Int32.toInt_toInt64, lg_cmp_ge, lg_cmp_le, lg_cmp_gt, lg_cmp_lt, lg_cmp_eq, Bool.false_eq_true, Bool.true_eq_false, reduceCtorEq, false_iff, true_iff, iff_true, iff_false, and_true, true_and, and_false, false_and, reduceIte, ite_true, ite_false, eq_self] at *)) <;> omega), trivial⟩ rfl
      exact hi16 _ _ _ ⟨(by ((try simp only [vp_in_iff, Int32.lt_iff_toInt_lt, Int32.le_iff_toInt_le, ← Int32.toInt_inj, Int32.reduceToInt, n_1, n_2, n_8, Int32.toNatClampNeg, Int64.lt_iff_toInt_lt, Int64.le_iff_toInt_le, ← Int64.toInt_inj, Int64.reduceToInt, Int32.toInt_toInt64, lg_cmp_ge, lg_cmp_le, lg_cmp_gt, lg_cmp_lt, lg_cmp_eq, Bool.false_eq_true, Bool.true_eq_false, reduceCtorEq, false_iff, true_iff, iff_true, iff_false, and_true, true_and, and_false, false_and, reduceIte, ite_true, ite_false, eq_self] at *)) <;> omega), trivial⟩ rfl
    ·
      by_cases h23 : q2 = 5
      · refine wa_tIn (by rw [h23]; decide) (by rw [h23]; decide) (by rw [h23] <;> rfl) o_X12_isNode_100 (by decide) ?_
        refine wa_aload_n (i := 0) rfl rfl ?_
        refine wa_getr ck_12 fl_12_313 ly_84 rf_84_124 ?_
        refine wa_aload_n (i := 0) rfl rfl ?_
        refine wa_getr ck_12 fl_12_111 ly_84 rf_84_42 ?_
        refine wa_iload_n (i := 2) rfl rfl ?_
        refine wa_iald ly_197 (by ((try simp only [vp_in_iff, Int32.lt_iff_toInt_lt, Int32.le_iff_toInt_le, ← Int32.toInt_inj, Int32.reduceToInt, n_1, n_2, n_8, Int32.toNatClampNeg, Int64.lt_iff_toInt_lt, Int64.le_iff_toInt_le, ← Int64.toInt_inj, Int64.reduceToInt, Int32.toInt_toInt64, lg_cmp_ge, lg_cmp_le, lg_cmp_gt, lg_cmp_lt, lg_cmp_eq, Bool.false_eq_true, Bool.true_eq_false, reduceCtorEq, false_iff, true_iff, iff_true, iff_false, and_true, true_and, and_false, false_and, reduceIte, ite_true, ite_false, eq_self] at *)) <;> omega) ?_
        refine wa_top (fun v24 hv24 => ?_)
        have qv24 := hv24
        clear hv24
        refine wa_zald ly_130 (by ((try simp only [vp_in_iff, Int32.lt_iff_toInt_lt, Int32.le_iff_toInt_le, ← Int32.toInt_inj, Int32.reduceToInt, n_1, n_2, n_8, Int32.toNatClampNeg, Int64.lt_iff_toInt_lt, Int64.le_iff_toInt_le, ← Int64.toInt_inj, Int64.reduceToInt, Int32.toInt_toInt64, lg_cmp_ge, lg_cmp_le, lg_cmp_gt, lg_cmp_lt, lg_cmp_eq, Bool.false_eq_true, Bool.true_eq_false, reduceCtorEq, false_iff, true_iff, iff_true, iff_false, and_true, true_and, and_false, false_and, reduceIte, ite_true, ite_false, eq_self] at *)) <;> omega) ?_
        refine wa_if_ne o_X12_isNode_118 (by decide) (fun h25 => ?_) (fun h25 => ?_)
        · replace h25 := bI_t (b := (gb σ 130 (v24).toNatClampNeg)) (rfl) h25
          refine wa_iconst (v := 0) (by decide) ?_
          refine wa_zreturn false (rfl) rfl rfl ?_
          exact ⟨_, rfl, rfl, trivial⟩
        · replace h25 := bI_f (b := (gb σ 130 (v24).toNatClampNeg)) (rfl) h25
          refine wa_iconst (v := 1) (by decide) ?_
          refine wa_goto o_X12_isNode_119 (by decide) ?_
          refine wa_zreturn true (rfl) rfl rfl ?_
          exact ⟨_, rfl, rfl, trivial⟩
      ·
        by_cases h26 : q2 = 6
        · refine wa_tIn (by rw [h26]; decide) (by rw [h26]; decide) (by rw [h26] <;> rfl) o_X12_isNode_96 (by decide) ?_
          refine wa_iconst (v := 1) (by decide) ?_
          refine wa_zreturn true (rfl) rfl rfl ?_
          exact ⟨_, rfl, rfl, trivial⟩
        ·
          by_cases h27 : q2 = 7
          · refine wa_tIn (by rw [h27]; decide) (by rw [h27]; decide) (by rw [h27] <;> rfl) o_X12_isNode_98 (by decide) ?_
            refine wa_iconst (v := 0) (by decide) ?_
            refine wa_zreturn false (rfl) rfl rfl ?_
            exact ⟨_, rfl, rfl, trivial⟩
          ·
            by_cases h28 : q2 = 8
            · refine wa_tIn (by rw [h28]; decide) (by rw [h28]; decide) (by rw [h28] <;> rfl) o_X12_isNode_259 (by decide) ?_
              refine wa_iconst (v := 0) (by decide) ?_
              refine wa_istore_nD (lv' := [(3, .int (bI false)), (0, .ref 84), (1, .int a0), (2, .int a1)]) (i := 3) rfl (by decide) rfl ?_
              refine wa_aload_n (i := 0) rfl rfl ?_
              refine wa_getr ck_12 fl_12_111 ly_84 rf_84_42 ?_
              refine wa_iload_n (i := 2) rfl rfl ?_
              refine wa_iald ly_197 (by ((try simp only [vp_in_iff, Int32.lt_iff_toInt_lt, Int32.le_iff_toInt_le, ← Int32.toInt_inj, Int32.reduceToInt, n_1, n_2, n_8, Int32.toNatClampNeg, Int64.lt_iff_toInt_lt, Int64.le_iff_toInt_le, ← Int64.toInt_inj, Int64.reduceToInt, Int32.toInt_toInt64, lg_cmp_ge, lg_cmp_le, lg_cmp_gt, lg_cmp_lt, lg_cmp_eq, Bool.false_eq_true, Bool.true_eq_false, reduceCtorEq, false_iff, true_iff, iff_true, iff_false, and_true, true_and, and_false, false_and, reduceIte, ite_true, ite_false, eq_self] at *)) <;> omega) ?_
              refine wa_top (fun v29 hv29 => ?_)
              have qv29 := hv29
              clear hv29
              refine wa_istoreD (lv' := [(4, .int v29), (3, .int (bI false)), (0, .ref 84), (1, .int a0), (2, .int a1)]) (by decide) rfl ?_
              refine wa_pick [2, 1, 0] rfl ?_
              have hi31 : ∀ (n9_269 : Nat) (l3 : Bool) (l4 : Int32), ((l4.toInt = -1 ∨ (250 * a0.toInt ≤ l4.toInt ∧ l4.toInt < 250 * a0.toInt + (gi σ 194 (a0).toNatClampNeg).toInt)) ∧ (True)) → (6501 - (l4.toInt + 6502) % 6502).toNat = n9_269 → WA G M_X12_isNode (ZM G M_X12_isNode d (fun r σ' => ∃ x : Bool, r = some (.int (bI x)) ∧ σ = σ' ∧ True)) B_X12_isNode_269 [(0, .ref 84), (3, .int (bI l3)), (4, .int l4)] [] σ := by
                intro n9_269
                induction n9_269 using Nat.strongRecOn with
                | _ n9_269 ih30 =>
                  intro l3 l4  i9 m9_269
                  obtain ⟨jhi31_0, -⟩ := i9
                  have ul4 := Int32.toInt_lt l4
                  have wl4 := Int32.le_toInt l4
                  refine wa_iload rfl ?_
                  refine wa_iconst (v := (-1)) (by decide) ?_
                  refine wa_icmp_eq o_X12_isNode_307 (by decide) (fun h32 => ?_) (fun h32 => ?_)
                  · refine wa_iload_n (i := 3) rfl rfl ?_
                    refine wa_zreturn l3 (rfl) rfl rfl ?_
                    exact ⟨_, rfl, rfl, trivial⟩
                  · refine wa_iload_n (i := 3) rfl rfl ?_
                    refine wa_if_ne o_X12_isNode_289 (by decide) (fun h33 => ?_) (fun h33 => ?_)
                    · replace h33 := bI_t (b := l3) (rfl) h33
                      refine wa_iconst (v := 1) (by decide) ?_
                      refine wa_goto o_X12_isNode_294 (by decide) ?_
                      refine wa_istore_nD (lv' := [(3, .int (bI true)), (0, .ref 84), (4, .int l4)]) (i := 3) rfl (by decide) rfl ?_
                      refine wa_aload_n (i := 0) rfl rfl ?_
                      refine wa_getr ck_12 fl_12_117 ly_84 rf_84_44 ?_
                      refine wa_iload rfl ?_
                      refine wa_iald ly_195 (by ((try simp only [vp_in_iff, Int32.lt_iff_toInt_lt, Int32.le_iff_toInt_le, ← Int32.toInt_inj, Int32.reduceToInt, n_1, n_2, n_8, Int32.toNatClampNeg, Int64.lt_iff_toInt_lt, Int64.le_iff_toInt_le, ← Int64.toInt_inj, Int64.reduceToInt, Int32.toInt_toInt64, lg_cmp_ge, lg_cmp_le, lg_cmp_gt, lg_cmp_lt, lg_cmp_eq, Bool.false_eq_true, Bool.true_eq_false, reduceCtorEq, false_iff, true_iff, iff_true, iff_false, and_true, true_and, and_false, false_and, reduceIte, ite_true, ite_false, eq_self] at *)) <;> omega) ?_
                      refine wa_top (fun v34 hv34 => ?_)
                      have rv34 := nok_next P_NOK (s := (a0).toNatClampNeg) (by ((try simp only [vp_in_iff, Int32.lt_iff_toInt_lt, Int32.le_iff_toInt_le, ← Int32.toInt_inj, Int32.reduceToInt, n_1, n_2, n_8, Int32.toNatClampNeg, Int64.lt_iff_toInt_lt, Int64.le_iff_toInt_le, ← Int64.toInt_inj, Int64.reduceToInt, Int32.toInt_toInt64, lg_cmp_ge, lg_cmp_le, lg_cmp_gt, lg_cmp_lt, lg_cmp_eq, Bool.false_eq_true, Bool.true_eq_false, reduceCtorEq, false_iff, true_iff, iff_true, iff_false, and_true, true_and, and_false, false_and, reduceIte, ite_true, ite_false, eq_self] at *)) <;> omega) (by ((try simp only [vp_in_iff, Int32.lt_iff_toInt_lt, Int32.le_iff_toInt_le, ← Int32.toInt_inj, Int32.reduceToInt, n_1, n_2, n_8, Int32.toNatClampNeg, Int64.lt_iff_toInt_lt, Int64.le_iff_toInt_le, ← Int64.toInt_inj, Int64.reduceToInt, Int32.toInt_toInt64, lg_cmp_ge, lg_cmp_le, lg_cmp_gt, lg_cmp_lt, lg_cmp_eq, Bool.false_eq_true, Bool.true_eq_false, reduceCtorEq, false_iff, true_iff, iff_true, iff_false, and_true, true_and, and_false, false_and, reduceIte, ite_true, ite_false, eq_self] at *)) <;> omega) (by ((try simp only [vp_in_iff, Int32.lt_iff_toInt_lt, Int32.le_iff_toInt_le, ← Int32.toInt_inj, Int32.reduceToInt, n_1, n_2, n_8, Int32.toNatClampNeg, Int64.lt_iff_toInt_lt, Int64.le_iff_toInt_le, ← Int64.toInt_inj, Int64.reduceToInt, Int32.toInt_toInt64, lg_cmp_ge, lg_cmp_le, lg_cmp_gt, lg_cmp_lt, lg_cmp_eq, Bool.false_eq_true, Bool.true_eq_false, reduceCtorEq, false_iff, true_iff, iff_true, iff_false, and_true, true_and, and_false, false_and, reduceIte, ite_true, ite_false, eq_self] at *)) <;> omega) hv34
                      clear hv34
                      refine wa_istoreD (lv' := [(4, .int v34), (3, .int (bI true)), (0, .ref 84)]) (by decide) rfl ?_
                      refine wa_goto o_X12_isNode_269 (by decide) ?_
                      refine wa_pick [2, 1, 0] rfl ?_
                      exact ih30 _ (by ((try simp only [vp_in_iff, Int32.lt_iff_toInt_lt, Int32.le_iff_toInt_le, ← Int32.toInt_inj, Int32.reduceToInt, n_1, n_2, n_8, Int32.toNatClampNeg, Int64.lt_iff_toInt_lt, Int64.le_iff_toInt_le, ← Int64.toInt_inj, Int64.reduceToInt, Int32.toInt_toInt64, lg_cmp_ge, lg_cmp_le, lg_cmp_gt, lg_cmp_lt, lg_cmp_eq, Bool.false_eq_true, Bool.true_eq_false, reduceCtorEq, false_iff, true_iff, iff_true, iff_false, and_true, true_and, and_false, false_and, reduceIte, ite_true, ite_false, eq_self] at *)) <;> omega) _ _ ⟨(by ((try simp only [vp_in_iff, Int32.lt_iff_toInt_lt, Int32.le_iff_toInt_le, ← Int32.toInt_inj, Int32.reduceToInt, n_1, n_2, n_8, Int32.toNatClampNeg, Int64.lt_iff_toInt_lt, Int64.le_iff_toInt_le, ← Int64.toInt_inj, Int64.reduceToInt, Int32.toInt_toInt64, lg_cmp_ge, lg_cmp_le, lg_cmp_gt, lg_cmp_lt, lg_cmp_eq, Bool.false_eq_true, Bool.true_eq_false, reduceCtorEq, false_iff, true_iff, iff_true, iff_false, and_true, true_and, and_false, false_and, reduceIte, ite_true, ite_false, eq_self] at *)) <;> omega), trivial⟩ rfl
                    · replace h33 := bI_f (b := l3) (rfl) h33
                      refine wa_aload_n (i := 0) rfl rfl ?_
                      refine wa_getr ck_12 fl_12_313 ly_84 rf_84_124 ?_
                      refine wa_iload rfl ?_
                      refine wa_zald ly_130 (by ((try simp only [vp_in_iff, Int32.lt_iff_toInt_lt, Int32.le_iff_toInt_le, ← Int32.toInt_inj, Int32.reduceToInt, n_1, n_2, n_8, Int32.toNatClampNeg, Int64.lt_iff_toInt_lt, Int64.le_iff_toInt_le, ← Int64.toInt_inj, Int64.reduceToInt, Int32.toInt_toInt64, lg_cmp_ge, lg_cmp_le, lg_cmp_gt, lg_cmp_lt, lg_cmp_eq, Bool.false_eq_true, Bool.true_eq_false, reduceCtorEq, false_iff, true_iff, iff_true, iff_false, and_true, true_and, and_false, false_and, reduceIte, ite_true, ite_false, eq_self] at *)) <;> omega) ?_
                      refine wa_if_eq o_X12_isNode_293 (by decide) (fun h35 => ?_) (fun h35 => ?_)
                      · replace h35 := bI_f (b := (gb σ 130 (l4).toNatClampNeg)) (rfl) h35
                        refine wa_iconst (v := 0) (by decide) ?_
                        refine wa_istore_nD (lv' := [(3, .int (bI false)), (0, .ref 84), (4, .int l4)]) (i := 3) rfl (by decide) rfl ?_
                        refine wa_aload_n (i := 0) rfl rfl ?_
                        refine wa_getr ck_12 fl_12_117 ly_84 rf_84_44 ?_
                        refine wa_iload rfl ?_
                        refine wa_iald ly_195 (by ((try simp only [vp_in_iff, Int32.lt_iff_toInt_lt, Int32.le_iff_toInt_le, ← Int32.toInt_inj, Int32.reduceToInt, n_1, n_2, n_8, Int32.toNatClampNeg, Int64.lt_iff_toInt_lt, Int64.le_iff_toInt_le, ← Int64.toInt_inj, Int64.reduceToInt, Int32.toInt_toInt64, lg_cmp_ge, lg_cmp_le, lg_cmp_gt, lg_cmp_lt, lg_cmp_eq, Bool.false_eq_true, Bool.true_eq_false, reduceCtorEq, false_iff, true_iff, iff_true, iff_false, and_true, true_and, and_false, false_and, reduceIte, ite_true, ite_false, eq_self] at *)) <;> omega) ?_
                        refine wa_top (fun v36 hv36 => ?_)
                        have rv36 := nok_next P_NOK (s := (a0).toNatClampNeg) (by ((try simp only [vp_in_iff, Int32.lt_iff_toInt_lt, Int32.le_iff_toInt_le, ← Int32.toInt_inj, Int32.reduceToInt, n_1, n_2, n_8, Int32.toNatClampNeg, Int64.lt_iff_toInt_lt, Int64.le_iff_toInt_le, ← Int64.toInt_inj, Int64.reduceToInt, Int32.toInt_toInt64, lg_cmp_ge, lg_cmp_le, lg_cmp_gt, lg_cmp_lt, lg_cmp_eq, Bool.false_eq_true, Bool.true_eq_false, reduceCtorEq, false_iff, true_iff, iff_true, iff_false, and_true, true_and, and_false, false_and, reduceIte, ite_true, ite_false, eq_self] at *)) <;> omega) (by ((try simp only [vp_in_iff, Int32.lt_iff_toInt_lt, Int32.le_iff_toInt_le, ← Int32.toInt_inj, Int32.reduceToInt, n_1, n_2, n_8, Int32.toNatClampNeg, Int64.lt_iff_toInt_lt, Int64.le_iff_toInt_le, ← Int64.toInt_inj, Int64.reduceToInt, Int32.toInt_toInt64, lg_cmp_ge, lg_cmp_le, lg_cmp_gt, lg_cmp_lt, lg_cmp_eq, Bool.false_eq_true, Bool.true_eq_false, reduceCtorEq, false_iff, true_iff, iff_true, iff_false, and_true, true_and, and_false, false_and, reduceIte, ite_true, ite_false, eq_self] at *)) <;> omega) (by ((try simp only [vp_in_iff, Int32.lt_iff_toInt_lt, Int32.le_iff_toInt_le, ← Int32.toInt_inj, Int32.reduceToInt, n_1, n_2, n_8, Int32.toNatClampNeg, Int64.lt_iff_toInt_lt, Int64.le_iff_toInt_le, ← Int64.toInt_inj, Int64.reduceToInt, Int32.toInt_toInt64, lg_cmp_ge, lg_cmp_le, lg_cmp_gt, lg_cmp_lt, lg_cmp_eq, Bool.false_eq_true, Bool.true_eq_false, reduceCtorEq, false_iff, true_iff, iff_true, iff_false, and_true, true_and, and_false, false_and, reduceIte, ite_true, ite_false, eq_self] at *)) <;> omega) hv36
                        clear hv36
                        refine wa_istoreD (lv' := [(4, .int v36), (3, .int (bI false)), (0, .ref 84)]) (by decide) rfl ?_
                        refine wa_goto o_X12_isNode_269 (by decide) ?_
                        refine wa_pick [2, 1, 0] rfl ?_
                        exact ih30 _ (by ((try simp only [vp_in_iff, Int32.lt_iff_toInt_lt, Int32.le_iff_toInt_le, ← Int32.toInt_inj, Int32.reduceToInt, n_1, n_2, n_8, Int32.toNatClampNeg, Int64.lt_iff_toInt_lt, Int64.le_iff_toInt_le, ← Int64.toInt_inj, Int64.reduceToInt, Int32.toInt_toInt64, lg_cmp_ge, lg_cmp_le, lg_cmp_gt, lg_cmp_lt, lg_cmp_eq, Bool.false_eq_true, Bool.true_eq_false, reduceCtorEq, false_iff, true_iff, iff_true, iff_false, and_true, true_and, and_false, false_and, reduceIte, ite_true, ite_false, eq_self] at *)) <;> omega) _ _ ⟨(by ((try simp only [vp_in_iff, Int32.lt_iff_toInt_lt, Int32.le_iff_toInt_le, ← Int32.toInt_inj, Int32.reduceToInt, n_1, n_2, n_8, Int32.toNatClampNeg, Int64.lt_iff_toInt_lt, Int64.le_iff_toInt_le, ← Int64.toInt_inj, Int64.reduceToInt, Int32.toInt_toInt64, lg_cmp_ge, lg_cmp_le, lg_cmp_gt, lg_cmp_lt, lg_cmp_eq, Bool.false_eq_true, Bool.true_eq_false, reduceCtorEq, false_iff, true_iff, iff_true, iff_false, and_true, true_and, and_false, false_and, reduceIte, ite_true, ite_false, eq_self] at *)) <;> omega), trivial⟩ rfl
                      · replace h35 := bI_t (b := (gb σ 130 (l4).toNatClampNeg)) (rfl) h35
                        refine wa_iconst (v := 1) (by decide) ?_
                        refine wa_goto o_X12_isNode_294 (by decide) ?_
                        refine wa_istore_nD (lv' := [(3, .int (bI true)), (0, .ref 84), (4, .int l4)]) (i := 3) rfl (by decide) rfl ?_
                        refine wa_aload_n (i := 0) rfl rfl ?_
                        refine wa_getr ck_12 fl_12_117 ly_84 rf_84_44 ?_
                        refine wa_iload rfl ?_
                        refine wa_iald ly_195 (by ((try simp only [vp_in_iff, Int32.lt_iff_toInt_lt, Int32.le_iff_toInt_le, ← Int32.toInt_inj, Int32.reduceToInt, n_1, n_2, n_8, Int32.toNatClampNeg, Int64.lt_iff_toInt_lt, Int64.le_iff_toInt_le, ← Int64.toInt_inj, Int64.reduceToInt, Int32.toInt_toInt64, lg_cmp_ge, lg_cmp_le, lg_cmp_gt, lg_cmp_lt, lg_cmp_eq, Bool.false_eq_true, Bool.true_eq_false, reduceCtorEq, false_iff, true_iff, iff_true, iff_false, and_true, true_and, and_false, false_and, reduceIte, ite_true, ite_false, eq_self] at *)) <;> omega) ?_
                        refine wa_top (fun v37 hv37 => ?_)
                        have rv37 := nok_next P_NOK (s := (a0).toNatClampNeg) (by ((try simp only [vp_in_iff, Int32.lt_iff_toInt_lt, Int32.le_iff_toInt_le, ← Int32.toInt_inj, Int32.reduceToInt, n_1, n_2, n_8, Int32.toNatClampNeg, Int64.lt_iff_toInt_lt, Int64.le_iff_toInt_le, ← Int64.toInt_inj, Int64.reduceToInt, Int32.toInt_toInt64, lg_cmp_ge, lg_cmp_le, lg_cmp_gt, lg_cmp_lt, lg_cmp_eq, Bool.false_eq_true, Bool.true_eq_false, reduceCtorEq, false_iff, true_iff, iff_true, iff_false, and_true, true_and, and_false, false_and, reduceIte, ite_true, ite_false, eq_self] at *)) <;> omega) (by ((try simp only [vp_in_iff, Int32.lt_iff_toInt_lt, Int32.le_iff_toInt_le, ← Int32.toInt_inj, Int32.reduceToInt, n_1, n_2, n_8, Int32.toNatClampNeg, Int64.lt_iff_toInt_lt, Int64.le_iff_toInt_le, ← Int64.toInt_inj, Int64.reduceToInt, Int32.toInt_toInt64, lg_cmp_ge, lg_cmp_le, lg_cmp_gt, lg_cmp_lt, lg_cmp_eq, Bool.false_eq_true, Bool.true_eq_false, reduceCtorEq, false_iff, true_iff, iff_true, iff_false, and_true, true_and, and_false, false_and, reduceIte, ite_true, ite_false, eq_self] at *)) <;> omega) (by ((try simp only [vp_in_iff, Int32.lt_iff_toInt_lt, Int32.le_iff_toInt_le, ← Int32.toInt_inj, Int32.reduceToInt, n_1, n_2, n_8, Int32.toNatClampNeg, Int64.lt_iff_toInt_lt, Int64.le_iff_toInt_le, ← Int64.toInt_inj, Int64.reduceToInt, Int32.toInt_toInt64, lg_cmp_ge, lg_cmp_le, lg_cmp_gt, lg_cmp_lt, lg_cmp_eq, Bool.false_eq_true, Bool.true_eq_false, reduceCtorEq, false_iff, true_iff, iff_true, iff_false, and_true, true_and, and_false, false_and, reduceIte, ite_true, ite_false, eq_self] at *)) <;> omega) hv37
                        clear hv37
                        refine wa_istoreD (lv' := [(4, .int v37), (3, .int (bI true)), (0, .ref 84)]) (by decide) rfl ?_
                        refine wa_goto o_X12_isNode_269 (by decide) ?_
                        refine wa_pick [2, 1, 0] rfl ?_
                        exact ih30 _ (by ((try simp only [vp_in_iff, Int32.lt_iff_toInt_lt, Int32.le_iff_toInt_le, ← Int32.toInt_inj, Int32.reduceToInt, n_1, n_2, n_8, Int32.toNatClampNeg, Int64.lt_iff_toInt_lt, Int64.le_iff_toInt_le, ← Int64.toInt_inj, Int64.reduceToInt, Int32.toInt_toInt64, lg_cmp_ge, lg_cmp_le, lg_cmp_gt, lg_cmp_lt, lg_cmp_eq, Bool.false_eq_true, Bool.true_eq_false, reduceCtorEq, false_iff, true_iff, iff_true, iff_false, and_true, true_and, and_false, false_and, reduceIte, ite_true, ite_false, eq_self] at *)) <;> omega) _ _ ⟨(by ((try simp only [vp_in_iff, Int32.lt_iff_toInt_lt, Int32.le_iff_toInt_le, ← Int32.toInt_inj, Int32.reduceToInt, n_1, n_2, n_8, Int32.toNatClampNeg, Int64.lt_iff_toInt_lt, Int64.le_iff_toInt_le, ← Int64.toInt_inj, Int64.reduceToInt, Int32.toInt_toInt64, lg_cmp_ge, lg_cmp_le, lg_cmp_gt, lg_cmp_lt, lg_cmp_eq, Bool.false_eq_true, Bool.true_eq_false, reduceCtorEq, false_iff, true_iff, iff_true, iff_false, and_true, true_and, and_false, false_and, reduceIte, ite_true, ite_false, eq_self] at *)) <;> omega), trivial⟩ rfl
              exact hi31 _ _ _ ⟨(by ((try simp only [vp_in_iff, Int32.lt_iff_toInt_lt, Int32.le_iff_toInt_le, ← Int32.toInt_inj, Int32.reduceToInt, n_1, n_2, n_8, Int32.toNatClampNeg, Int64.lt_iff_toInt_lt, Int64.le_iff_toInt_le, ← Int64.toInt_inj, Int64.reduceToInt, Int32.toInt_toInt64, lg_cmp_ge, lg_cmp_le, lg_cmp_gt, lg_cmp_lt, lg_cmp_eq, Bool.false_eq_true, Bool.true_eq_false, reduceCtorEq, false_iff, true_iff, iff_true, iff_false, and_true, true_and, and_false, false_and, reduceIte, ite_true, ite_false, eq_self] at *)) <;> omega), trivial⟩ rfl
            ·
              by_cases h38 : q2 = 9
              · refine wa_tIn (by rw [h38]; decide) (by rw [h38]; decide) (by rw [h38] <;> rfl) o_X12_isNode_259 (by decide) ?_
                refine wa_iconst (v := 0) (by decide) ?_
                refine wa_istore_nD (lv' := [(3, .int (bI false)), (0, .ref 84), (1, .int a0), (2, .int a1)]) (i := 3) rfl (by decide) rfl ?_
                refine wa_aload_n (i := 0) rfl rfl ?_
                refine wa_getr ck_12 fl_12_111 ly_84 rf_84_42 ?_
                refine wa_iload_n (i := 2) rfl rfl ?_
                refine wa_iald ly_197 (by ((try simp only [vp_in_iff, Int32.lt_iff_toInt_lt, Int32.le_iff_toInt_le, ← Int32.toInt_inj, Int32.reduceToInt, n_1, n_2, n_8, Int32.toNatClampNeg, Int64.lt_iff_toInt_lt, Int64.le_iff_toInt_le, ← Int64.toInt_inj, Int64.reduceToInt, Int32.toInt_toInt64, lg_cmp_ge, lg_cmp_le, lg_cmp_gt, lg_cmp_lt, lg_cmp_eq, Bool.false_eq_true, Bool.true_eq_false, reduceCtorEq, false_iff, true_iff, iff_true, iff_false, and_true, true_and, and_false, false_and, reduceIte, ite_true, ite_false, eq_self] at *)) <;> omega) ?_
                refine wa_top (fun v39 hv39 => ?_)
                have qv39 := hv39
                clear hv39
                refine wa_istoreD (lv' := [(4, .int v39), (3, .int (bI false)), (0, .ref 84), (1, .int a0), (2, .int a1)]) (by decide) rfl ?_
                refine wa_pick [2, 1, 0] rfl ?_
                have hi41 : ∀ (n9_269 : Nat) (l3 : Bool) (l4 : Int32), ((l4.toInt = -1 ∨ (250 * a0.toInt ≤ l4.toInt ∧ l4.toInt < 250 * a0.toInt + (gi σ 194 (a0).toNatClampNeg).toInt)) ∧ (True)) → (6501 - (l4.toInt + 6502) % 6502).toNat = n9_269 → WA G M_X12_isNode (ZM G M_X12_isNode d (fun r σ' => ∃ x : Bool, r = some (.int (bI x)) ∧ σ = σ' ∧ True)) B_X12_isNode_269 [(0, .ref 84), (3, .int (bI l3)), (4, .int l4)] [] σ := by
                  intro n9_269
                  induction n9_269 using Nat.strongRecOn with
                  | _ n9_269 ih40 =>
                    intro l3 l4  i9 m9_269
                    obtain ⟨jhi41_0, -⟩ := i9
                    have ul4 := Int32.toInt_lt l4
                    have wl4 := Int32.le_toInt l4
                    refine wa_iload rfl ?_
                    refine wa_iconst (v := (-1)) (by decide) ?_
                    refine wa_icmp_eq o_X12_isNode_307 (by decide) (fun h42 => ?_) (fun h42 => ?_)
                    · refine wa_iload_n (i := 3) rfl rfl ?_
                      refine wa_zreturn l3 (rfl) rfl rfl ?_
                      exact ⟨_, rfl, rfl, trivial⟩
                    · refine wa_iload_n (i := 3) rfl rfl ?_
                      refine wa_if_ne o_X12_isNode_289 (by decide) (fun h43 => ?_) (fun h43 => ?_)
                      · replace h43 := bI_t (b := l3) (rfl) h43
                        refine wa_iconst (v := 1) (by decide) ?_
                        refine wa_goto o_X12_isNode_294 (by decide) ?_
                        refine wa_istore_nD (lv' := [(3, .int (bI true)), (0, .ref 84), (4, .int l4)]) (i := 3) rfl (by decide) rfl ?_
                        refine wa_aload_n (i := 0) rfl rfl ?_
                        refine wa_getr ck_12 fl_12_117 ly_84 rf_84_44 ?_
                        refine wa_iload rfl ?_
                        refine wa_iald ly_195 (by ((try simp only [vp_in_iff, Int32.lt_iff_toInt_lt, Int32.le_iff_toInt_le, ← Int32.toInt_inj, Int32.reduceToInt, n_1, n_2, n_8, Int32.toNatClampNeg, Int64.lt_iff_toInt_lt, Int64.le_iff_toInt_le, ← Int64.toInt_inj, Int64.reduceToInt, Int32.toInt_toInt64, lg_cmp_ge, lg_cmp_le, lg_cmp_gt, lg_cmp_lt, lg_cmp_eq, Bool.false_eq_true, Bool.true_eq_false, reduceCtorEq, false_iff, true_iff, iff_true, iff_false, and_true, true_and, and_false, false_and, reduceIte, ite_true, ite_false, eq_self] at *)) <;> omega) ?_
                        refine wa_top (fun v44 hv44 => ?_)
                        have rv44 := nok_next P_NOK (s := (a0).toNatClampNeg) (by ((try simp only [vp_in_iff, Int32.lt_iff_toInt_lt, Int32.le_iff_toInt_le, ← Int32.toInt_inj, Int32.reduceToInt, n_1, n_2, n_8, Int32.toNatClampNeg, Int64.lt_iff_toInt_lt, Int64.le_iff_toInt_le, ← Int64.toInt_inj, Int64.reduceToInt, Int32.toInt_toInt64, lg_cmp_ge, lg_cmp_le, lg_cmp_gt, lg_cmp_lt, lg_cmp_eq, Bool.false_eq_true, Bool.true_eq_false, reduceCtorEq, false_iff, true_iff, iff_true, iff_false, and_true, true_and, and_false, false_and, reduceIte, ite_true, ite_false, eq_self] at *)) <;> omega) (by ((try simp only [vp_in_iff, Int32.lt_iff_toInt_lt, Int32.le_iff_toInt_le, ← Int32.toInt_inj, Int32.reduceToInt, n_1, n_2, n_8, Int32.toNatClampNeg, Int64.lt_iff_toInt_lt, Int64.le_iff_toInt_le, ← Int64.toInt_inj, Int64.reduceToInt, Int32.toInt_toInt64, lg_cmp_ge, lg_cmp_le, lg_cmp_gt, lg_cmp_lt, lg_cmp_eq, Bool.false_eq_true, Bool.true_eq_false, reduceCtorEq, false_iff, true_iff, iff_true, iff_false, and_true, true_and, and_false, false_and, reduceIte, ite_true, ite_false, eq_self] at *)) <;> omega) (by ((try simp only [vp_in_iff, Int32.lt_iff_toInt_lt, Int32.le_iff_toInt_le, ← Int32.toInt_inj, Int32.reduceToInt, n_1, n_2, n_8, Int32.toNatClampNeg, Int64.lt_iff_toInt_lt, Int64.le_iff_toInt_le, ← Int64.toInt_inj, Int64.reduceToInt, Int32.toInt_toInt64, lg_cmp_ge, lg_cmp_le, lg_cmp_gt, lg_cmp_lt, lg_cmp_eq, Bool.false_eq_true, Bool.true_eq_false, reduceCtorEq, false_iff, true_iff, iff_true, iff_false, and_true, true_and, and_false, false_and, reduceIte, ite_true, ite_false, eq_self] at *)) <;> omega) hv44
                        clear hv44
                        refine wa_istoreD (lv' := [(4, .int v44), (3, .int (bI true)), (0, .ref 84)]) (by decide) rfl ?_
                        refine wa_goto o_X12_isNode_269 (by decide) ?_
                        refine wa_pick [2, 1, 0] rfl ?_
                        exact ih40 _ (by ((try simp only [vp_in_iff, Int32.lt_iff_toInt_lt, Int32.le_iff_toInt_le, ← Int32.toInt_inj, Int32.reduceToInt, n_1, n_2, n_8, Int32.toNatClampNeg, Int64.lt_iff_toInt_lt, Int64.le_iff_toInt_le, ← Int64.toInt_inj, Int64.reduceToInt, Int32.toInt_toInt64, lg_cmp_ge, lg_cmp_le, lg_cmp_gt, lg_cmp_lt, lg_cmp_eq, Bool.false_eq_true, Bool.true_eq_false, reduceCtorEq, false_iff, true_iff, iff_true, iff_false, and_true, true_and, and_false, false_and, reduceIte, ite_true, ite_false, eq_self] at *)) <;> omega) _ _ ⟨(by ((try simp only [vp_in_iff, Int32.lt_iff_toInt_lt, Int32.le_iff_toInt_le, ← Int32.toInt_inj, Int32.reduceToInt, n_1, n_2, n_8, Int32.toNatClampNeg, Int64.lt_iff_toInt_lt, Int64.le_iff_toInt_le, ← Int64.toInt_inj, Int64.reduceToInt, Int32.toInt_toInt64, lg_cmp_ge, lg_cmp_le, lg_cmp_gt, lg_cmp_lt, lg_cmp_eq, Bool.false_eq_true, Bool.true_eq_false, reduceCtorEq, false_iff, true_iff, iff_true, iff_false, and_true, true_and, and_false, false_and, reduceIte, ite_true, ite_false, eq_self] at *)) <;> omega), trivial⟩ rfl
                      · replace h43 := bI_f (b := l3) (rfl) h43
                        refine wa_aload_n (i := 0) rfl rfl ?_
                        refine wa_getr ck_12 fl_12_313 ly_84 rf_84_124 ?_
                        refine wa_iload rfl ?_
                        refine wa_zald ly_130 (by ((try simp only [vp_in_iff, Int32.lt_iff_toInt_lt, Int32.le_iff_toInt_le, ← Int32.toInt_inj, Int32.reduceToInt, n_1, n_2, n_8, Int32.toNatClampNeg, Int64.lt_iff_toInt_lt, Int64.le_iff_toInt_le, ← Int64.toInt_inj, Int64.reduceToInt, Int32.toInt_toInt64, lg_cmp_ge, lg_cmp_le, lg_cmp_gt, lg_cmp_lt, lg_cmp_eq, Bool.false_eq_true, Bool.true_eq_false, reduceCtorEq, false_iff, true_iff, iff_true, iff_false, and_true, true_and, and_false, false_and, reduceIte, ite_true, ite_false, eq_self] at *)) <;> omega) ?_
                        refine wa_if_eq o_X12_isNode_293 (by decide) (fun h45 => ?_) (fun h45 => ?_)
                        · replace h45 := bI_f (b := (gb σ 130 (l4).toNatClampNeg)) (rfl) h45
                          refine wa_iconst (v := 0) (by decide) ?_
                          refine wa_istore_nD (lv' := [(3, .int (bI false)), (0, .ref 84), (4, .int l4)]) (i := 3) rfl (by decide) rfl ?_
                          refine wa_aload_n (i := 0) rfl rfl ?_
                          refine wa_getr ck_12 fl_12_117 ly_84 rf_84_44 ?_
                          refine wa_iload rfl ?_
                          refine wa_iald ly_195 (by ((try simp only [vp_in_iff, Int32.lt_iff_toInt_lt, Int32.le_iff_toInt_le, ← Int32.toInt_inj, Int32.reduceToInt, n_1, n_2, n_8, Int32.toNatClampNeg, Int64.lt_iff_toInt_lt, Int64.le_iff_toInt_le, ← Int64.toInt_inj, Int64.reduceToInt, Int32.toInt_toInt64, lg_cmp_ge, lg_cmp_le, lg_cmp_gt, lg_cmp_lt, lg_cmp_eq, Bool.false_eq_true, Bool.true_eq_false, reduceCtorEq, false_iff, true_iff, iff_true, iff_false, and_true, true_and, and_false, false_and, reduceIte, ite_true, ite_false, eq_self] at *)) <;> omega) ?_
                          refine wa_top (fun v46 hv46 => ?_)
                          have rv46 := nok_next P_NOK (s := (a0).toNatClampNeg) (by ((try simp only [vp_in_iff, Int32.lt_iff_toInt_lt, Int32.le_iff_toInt_le, ← Int32.toInt_inj, Int32.reduceToInt, n_1, n_2, n_8, Int32.toNatClampNeg, Int64.lt_iff_toInt_lt, Int64.le_iff_toInt_le, ← Int64.toInt_inj, Int64.reduceToInt, Int32.toInt_toInt64, lg_cmp_ge, lg_cmp_le, lg_cmp_gt, lg_cmp_lt, lg_cmp_eq, Bool.false_eq_true, Bool.true_eq_false, reduceCtorEq, false_iff, true_iff, iff_true, iff_false, and_true, true_and, and_false, false_and, reduceIte, ite_true, ite_false, eq_self] at *)) <;> omega) (by ((try simp only [vp_in_iff, Int32.lt_iff_toInt_lt, Int32.le_iff_toInt_le, ← Int32.toInt_inj, Int32.reduceToInt, n_1, n_2, n_8, Int32.toNatClampNeg, Int64.lt_iff_toInt_lt, Int64.le_iff_toInt_le, ← Int64.toInt_inj, Int64.reduceToInt, Int32.toInt_toInt64, lg_cmp_ge, lg_cmp_le, lg_cmp_gt, lg_cmp_lt, lg_cmp_eq, Bool.false_eq_true, Bool.true_eq_false, reduceCtorEq, false_iff, true_iff, iff_true, iff_false, and_true, true_and, and_false, false_and, reduceIte, ite_true, ite_false, eq_self] at *)) <;> omega) (by ((try simp only [vp_in_iff, Int32.lt_iff_toInt_lt, Int32.le_iff_toInt_le, ← Int32.toInt_inj, Int32.reduceToInt, n_1, n_2, n_8, Int32.toNatClampNeg, Int64.lt_iff_toInt_lt, Int64.le_iff_toInt_le, ← Int64.toInt_inj, Int64.reduceToInt, Int32.toInt_toInt64, lg_cmp_ge, lg_cmp_le, lg_cmp_gt, lg_cmp_lt, lg_cmp_eq, Bool.false_eq_true, Bool.true_eq_false, reduceCtorEq, false_iff, true_iff, iff_true, iff_false, and_true, true_and, and_false, false_and, reduceIte, ite_true, ite_false, eq_self] at *)) <;> omega) hv46
                          clear hv46
                          refine wa_istoreD (lv' := [(4, .int v46), (3, .int (bI false)), (0, .ref 84)]) (by decide) rfl ?_
                          refine wa_goto o_X12_isNode_269 (by decide) ?_
                          refine wa_pick [2, 1, 0] rfl ?_
                          exact ih40 _ (by ((try simp only [vp_in_iff, Int32.lt_iff_toInt_lt, Int32.le_iff_toInt_le, ← Int32.toInt_inj, Int32.reduceToInt, n_1, n_2, n_8, Int32.toNatClampNeg, Int64.lt_iff_toInt_lt, Int64.le_iff_toInt_le, ← Int64.toInt_inj, Int64.reduceToInt, Int32.toInt_toInt64, lg_cmp_ge, lg_cmp_le, lg_cmp_gt, lg_cmp_lt, lg_cmp_eq, Bool.false_eq_true, Bool.true_eq_false, reduceCtorEq, false_iff, true_iff, iff_true, iff_false, and_true, true_and, and_false, false_and, reduceIte, ite_true, ite_false, eq_self] at *)) <;> omega) _ _ ⟨(by ((try simp only [vp_in_iff, Int32.lt_iff_toInt_lt, Int32.le_iff_toInt_le, ← Int32.toInt_inj, Int32.reduceToInt, n_1, n_2, n_8, Int32.toNatClampNeg, Int64.lt_iff_toInt_lt, Int64.le_iff_toInt_le, ← Int64.toInt_inj, Int64.reduceToInt, Int32.toInt_toInt64, lg_cmp_ge, lg_cmp_le, lg_cmp_gt, lg_cmp_lt, lg_cmp_eq, Bool.false_eq_true, Bool.true_eq_false, reduceCtorEq, false_iff, true_iff, iff_true, iff_false, and_true, true_and, and_false, false_and, reduceIte, ite_true, ite_false, eq_self] at *)) <;> omega), trivial⟩ rfl
                        · replace h45 := bI_t (b := (gb σ 130 (l4).toNatClampNeg)) (rfl) h45
                          refine wa_iconst (v := 1) (by decide) ?_
                          refine wa_goto o_X12_isNode_294 (by decide) ?_
                          refine wa_istore_nD (lv' := [(3, .int (bI true)), (0, .ref 84), (4, .int l4)]) (i := 3) rfl (by decide) rfl ?_
                          refine wa_aload_n (i := 0) rfl rfl ?_
                          refine wa_getr ck_12 fl_12_117 ly_84 rf_84_44 ?_
                          refine wa_iload rfl ?_
                          refine wa_iald ly_195 (by ((try simp only [vp_in_iff, Int32.lt_iff_toInt_lt, Int32.le_iff_toInt_le, ← Int32.toInt_inj, Int32.reduceToInt, n_1, n_2, n_8, Int32.toNatClampNeg, Int64.lt_iff_toInt_lt, Int64.le_iff_toInt_le, ← Int64.toInt_inj, Int64.reduceToInt, Int32.toInt_toInt64, lg_cmp_ge, lg_cmp_le, lg_cmp_gt, lg_cmp_lt, lg_cmp_eq, Bool.false_eq_true, Bool.true_eq_false, reduceCtorEq, false_iff, true_iff, iff_true, iff_false, and_true, true_and, and_false, false_and, reduceIte, ite_true, ite_false, eq_self] at *)) <;> omega) ?_
                          refine wa_top (fun v47 hv47 => ?_)
                          have rv47 := nok_next P_NOK (s := (a0).toNatClampNeg) (by ((try simp only [vp_in_iff, Int32.lt_iff_toInt_lt, Int32.le_iff_toInt_le, ← Int32.toInt_inj, Int32.reduceToInt, n_1, n_2, n_8, Int32.toNatClampNeg, Int64.lt_iff_toInt_lt, Int64.le_iff_toInt_le, ← Int64.toInt_inj, Int64.reduceToInt, Int32.toInt_toInt64, lg_cmp_ge, lg_cmp_le, lg_cmp_gt, lg_cmp_lt, lg_cmp_eq, Bool.false_eq_true, Bool.true_eq_false, reduceCtorEq, false_iff, true_iff, iff_true, iff_false, and_true, true_and, and_false, false_and, reduceIte, ite_true, ite_false, eq_self] at *)) <;> omega) (by ((try simp only [vp_in_iff, Int32.lt_iff_toInt_lt, Int32.le_iff_toInt_le, ← Int32.toInt_inj, Int32.reduceToInt, n_1, n_2, n_8, Int32.toNatClampNeg, Int64.lt_iff_toInt_lt, Int64.le_iff_toInt_le, ← Int64.toInt_inj, Int64.reduceToInt, Int32.toInt_toInt64, lg_cmp_ge, lg_cmp_le, lg_cmp_gt, lg_cmp_lt, lg_cmp_eq, Bool.false_eq_true, Bool.true_eq_false, reduceCtorEq, false_iff, true_iff, iff_true, iff_false, and_true, true_and, and_false, false_and, reduceIte, ite_true, ite_false, eq_self] at *)) <;> omega) (by ((try simp only [vp_in_iff, Int32.lt_iff_toInt_lt, Int32.le_iff_toInt_le, ← Int32.toInt_inj, Int32.reduceToInt, n_1, n_2, n_8, Int32.toNatClampNeg, Int64.lt_iff_toInt_lt, Int64.le_iff_toInt_le, ← Int64.toInt_inj, Int64.reduceToInt, Int32.toInt_toInt64, lg_cmp_ge, lg_cmp_le, lg_cmp_gt, lg_cmp_lt, lg_cmp_eq, Bool.false_eq_true, Bool.true_eq_false, reduceCtorEq, false_iff, true_iff, iff_true, iff_false, and_true, true_and, and_false, false_and, reduceIte, ite_true, ite_false, eq_self] at *)) <;> omega) hv47
                          clear hv47
                          refine wa_istoreD (lv' := [(4, .int v47), (3, .int (bI true)), (0, .ref 84)]) (by decide) rfl ?_
                          refine wa_goto o_X12_isNode_269 (by decide) ?_
                          refine wa_pick [2, 1, 0] rfl ?_
                          exact ih40 _ (by ((try simp only [vp_in_iff, Int32.lt_iff_toInt_lt, Int32.le_iff_toInt_le, ← Int32.toInt_inj, Int32.reduceToInt, n_1, n_2, n_8, Int32.toNatClampNeg, Int64.lt_iff_toInt_lt, Int64.le_iff_toInt_le, ← Int64.toInt_inj, Int64.reduceToInt, Int32.toInt_toInt64, lg_cmp_ge, lg_cmp_le, lg_cmp_gt, lg_cmp_lt, lg_cmp_eq, Bool.false_eq_true, Bool.true_eq_false, reduceCtorEq, false_iff, true_iff, iff_true, iff_false, and_true, true_and, and_false, false_and, reduceIte, ite_true, ite_false, eq_self] at *)) <;> omega) _ _ ⟨(by ((try simp only [vp_in_iff, Int32.lt_iff_toInt_lt, Int32.le_iff_toInt_le, ← Int32.toInt_inj, Int32.reduceToInt, n_1, n_2, n_8, Int32.toNatClampNeg, Int64.lt_iff_toInt_lt, Int64.le_iff_toInt_le, ← Int64.toInt_inj, Int64.reduceToInt, Int32.toInt_toInt64, lg_cmp_ge, lg_cmp_le, lg_cmp_gt, lg_cmp_lt, lg_cmp_eq, Bool.false_eq_true, Bool.true_eq_false, reduceCtorEq, false_iff, true_iff, iff_true, iff_false, and_true, true_and, and_false, false_and, reduceIte, ite_true, ite_false, eq_self] at *)) <;> omega), trivial⟩ rfl
                exact hi41 _ _ _ ⟨(by ((try simp only [vp_in_iff, Int32.lt_iff_toInt_lt, Int32.le_iff_toInt_le, ← Int32.toInt_inj, Int32.reduceToInt, n_1, n_2, n_8, Int32.toNatClampNeg, Int64.lt_iff_toInt_lt, Int64.le_iff_toInt_le, ← Int64.toInt_inj, Int64.reduceToInt, Int32.toInt_toInt64, lg_cmp_ge, lg_cmp_le, lg_cmp_gt, lg_cmp_lt, lg_cmp_eq, Bool.false_eq_true, Bool.true_eq_false, reduceCtorEq, false_iff, true_iff, iff_true, iff_false, and_true, true_and, and_false, false_and, reduceIte, ite_true, ite_false, eq_self] at *)) <;> omega), trivial⟩ rfl
              ·
                by_cases h48 : q2 = 10
                · refine wa_tIn (by rw [h48]; decide) (by rw [h48]; decide) (by rw [h48] <;> rfl) o_X12_isNode_259 (by decide) ?_
                  refine wa_iconst (v := 0) (by decide) ?_
                  refine wa_istore_nD (lv' := [(3, .int (bI false)), (0, .ref 84), (1, .int a0), (2, .int a1)]) (i := 3) rfl (by decide) rfl ?_
                  refine wa_aload_n (i := 0) rfl rfl ?_
                  refine wa_getr ck_12 fl_12_111 ly_84 rf_84_42 ?_
                  refine wa_iload_n (i := 2) rfl rfl ?_
                  refine wa_iald ly_197 (by ((try simp only [vp_in_iff, Int32.lt_iff_toInt_lt, Int32.le_iff_toInt_le, ← Int32.toInt_inj, Int32.reduceToInt, n_1, n_2, n_8, Int32.toNatClampNeg, Int64.lt_iff_toInt_lt, Int64.le_iff_toInt_le, ← Int64.toInt_inj, Int64.reduceToInt, Int32.toInt_toInt64, lg_cmp_ge, lg_cmp_le, lg_cmp_gt, lg_cmp_lt, lg_cmp_eq, Bool.false_eq_true, Bool.true_eq_false, reduceCtorEq, false_iff, true_iff, iff_true, iff_false, and_true, true_and, and_false, false_and, reduceIte, ite_true, ite_false, eq_self] at *)) <;> omega) ?_
                  refine wa_top (fun v49 hv49 => ?_)
                  have qv49 := hv49
                  clear hv49
                  refine wa_istoreD (lv' := [(4, .int v49), (3, .int (bI false)), (0, .ref 84), (1, .int a0), (2, .int a1)]) (by decide) rfl ?_
                  refine wa_pick [2, 1, 0] rfl ?_
                  have hi51 : ∀ (n9_269 : Nat) (l3 : Bool) (l4 : Int32), ((l4.toInt = -1 ∨ (250 * a0.toInt ≤ l4.toInt ∧ l4.toInt < 250 * a0.toInt + (gi σ 194 (a0).toNatClampNeg).toInt)) ∧ (True)) → (6501 - (l4.toInt + 6502) % 6502).toNat = n9_269 → WA G M_X12_isNode (ZM G M_X12_isNode d (fun r σ' => ∃ x : Bool, r = some (.int (bI x)) ∧ σ = σ' ∧ True)) B_X12_isNode_269 [(0, .ref 84), (3, .int (bI l3)), (4, .int l4)] [] σ := by
                    intro n9_269
                    induction n9_269 using Nat.strongRecOn with
                    | _ n9_269 ih50 =>
                      intro l3 l4  i9 m9_269
                      obtain ⟨jhi51_0, -⟩ := i9
                      have ul4 := Int32.toInt_lt l4
                      have wl4 := Int32.le_toInt l4
                      refine wa_iload rfl ?_
                      refine wa_iconst (v := (-1)) (by decide) ?_
                      refine wa_icmp_eq o_X12_isNode_307 (by decide) (fun h52 => ?_) (fun h52 => ?_)
                      · refine wa_iload_n (i := 3) rfl rfl ?_
                        refine wa_zreturn l3 (rfl) rfl rfl ?_
                        exact ⟨_, rfl, rfl, trivial⟩
                      · refine wa_iload_n (i := 3) rfl rfl ?_
                        refine wa_if_ne o_X12_isNode_289 (by decide) (fun h53 => ?_) (fun h53 => ?_)
                        · replace h53 := bI_t (b := l3) (rfl) h53
                          refine wa_iconst (v := 1) (by decide) ?_
                          refine wa_goto o_X12_isNode_294 (by decide) ?_
                          refine wa_istore_nD (lv' := [(3, .int (bI true)), (0, .ref 84), (4, .int l4)]) (i := 3) rfl (by decide) rfl ?_
                          refine wa_aload_n (i := 0) rfl rfl ?_
                          refine wa_getr ck_12 fl_12_117 ly_84 rf_84_44 ?_
                          refine wa_iload rfl ?_
                          refine wa_iald ly_195 (by ((try simp only [vp_in_iff, Int32.lt_iff_toInt_lt, Int32.le_iff_toInt_le, ← Int32.toInt_inj, Int32.reduceToInt, n_1, n_2, n_8, Int32.toNatClampNeg, Int64.lt_iff_toInt_lt, Int64.le_iff_toInt_le, ← Int64.toInt_inj, Int64.reduceToInt, Int32.toInt_toInt64, lg_cmp_ge, lg_cmp_le, lg_cmp_gt, lg_cmp_lt, lg_cmp_eq, Bool.false_eq_true, Bool.true_eq_false, reduceCtorEq, false_iff, true_iff, iff_true, iff_false, and_true, true_and, and_false, false_and, reduceIte, ite_true, ite_false, eq_self] at *)) <;> omega) ?_
                          refine wa_top (fun v54 hv54 => ?_)
                          have rv54 := nok_next P_NOK (s := (a0).toNatClampNeg) (by ((try simp only [vp_in_iff, Int32.lt_iff_toInt_lt, Int32.le_iff_toInt_le, ← Int32.toInt_inj, Int32.reduceToInt, n_1, n_2, n_8, Int32.toNatClampNeg, Int64.lt_iff_toInt_lt, Int64.le_iff_toInt_le, ← Int64.toInt_inj, Int64.reduceToInt, Int32.toInt_toInt64, lg_cmp_ge, lg_cmp_le, lg_cmp_gt, lg_cmp_lt, lg_cmp_eq, Bool.false_eq_true, Bool.true_eq_false, reduceCtorEq, false_iff, true_iff, iff_true, iff_false, and_true, true_and, and_false, false_and, reduceIte, ite_true, ite_false, eq_self] at *)) <;> omega) (by ((try simp only [vp_in_iff, Int32.lt_iff_toInt_lt, Int32.le_iff_toInt_le, ← Int32.toInt_inj, Int32.reduceToInt, n_1, n_2, n_8, Int32.toNatClampNeg, Int64.lt_iff_toInt_lt, Int64.le_iff_toInt_le, ← Int64.toInt_inj, Int64.reduceToInt, Int32.toInt_toInt64, lg_cmp_ge, lg_cmp_le, lg_cmp_gt, lg_cmp_lt, lg_cmp_eq, Bool.false_eq_true, Bool.true_eq_false, reduceCtorEq, false_iff, true_iff, iff_true, iff_false, and_true, true_and, and_false, false_and, reduceIte, ite_true, ite_false, eq_self] at *)) <;> omega) (by ((try simp only [vp_in_iff, Int32.lt_iff_toInt_lt, Int32.le_iff_toInt_le, ← Int32.toInt_inj, Int32.reduceToInt, n_1, n_2, n_8, Int32.toNatClampNeg, Int64.lt_iff_toInt_lt, Int64.le_iff_toInt_le, ← Int64.toInt_inj, Int64.reduceToInt, Int32.toInt_toInt64, lg_cmp_ge, lg_cmp_le, lg_cmp_gt, lg_cmp_lt, lg_cmp_eq, Bool.false_eq_true, Bool.true_eq_false, reduceCtorEq, false_iff, true_iff, iff_true, iff_false, and_true, true_and, and_false, false_and, reduceIte, ite_true, ite_false, eq_self] at *)) <;> omega) hv54
                          clear hv54
                          refine wa_istoreD (lv' := [(4, .int v54), (3, .int (bI true)), (0, .ref 84)]) (by decide) rfl ?_
                          refine wa_goto o_X12_isNode_269 (by decide) ?_
                          refine wa_pick [2, 1, 0] rfl ?_
                          exact ih50 _ (by ((try simp only [vp_in_iff, Int32.lt_iff_toInt_lt, Int32.le_iff_toInt_le, ← Int32.toInt_inj, Int32.reduceToInt, n_1, n_2, n_8, Int32.toNatClampNeg, Int64.lt_iff_toInt_lt, Int64.le_iff_toInt_le, ← Int64.toInt_inj, Int64.reduceToInt, Int32.toInt_toInt64, lg_cmp_ge, lg_cmp_le, lg_cmp_gt, lg_cmp_lt, lg_cmp_eq, Bool.false_eq_true, Bool.true_eq_false, reduceCtorEq, false_iff, true_iff, iff_true, iff_false, and_true, true_and, and_false, false_and, reduceIte, ite_true, ite_false, eq_self] at *)) <;> omega) _ _ ⟨(by ((try simp only [vp_in_iff, Int32.lt_iff_toInt_lt, Int32.le_iff_toInt_le, ← Int32.toInt_inj, Int32.reduceToInt, n_1, n_2, n_8, Int32.toNatClampNeg, Int64.lt_iff_toInt_lt, Int64.le_iff_toInt_le, ← Int64.toInt_inj, Int64.reduceToInt, Int32.toInt_toInt64, lg_cmp_ge, lg_cmp_le, lg_cmp_gt, lg_cmp_lt, lg_cmp_eq, Bool.false_eq_true, Bool.true_eq_false, reduceCtorEq, false_iff, true_iff, iff_true, iff_false, and_true, true_and, and_false, false_and, reduceIte, ite_true, ite_false, eq_self] at *)) <;> omega), trivial⟩ rfl
                        · replace h53 := bI_f (b := l3) (rfl) h53
                          refine wa_aload_n (i := 0) rfl rfl ?_
                          refine wa_getr ck_12 fl_12_313 ly_84 rf_84_124 ?_
                          refine wa_iload rfl ?_
                          refine wa_zald ly_130 (by ((try simp only [vp_in_iff, Int32.lt_iff_toInt_lt, Int32.le_iff_toInt_le, ← Int32.toInt_inj, Int32.reduceToInt, n_1, n_2, n_8, Int32.toNatClampNeg, Int64.lt_iff_toInt_lt, Int64.le_iff_toInt_le, ← Int64.toInt_inj, Int64.reduceToInt, Int32.toInt_toInt64, lg_cmp_ge, lg_cmp_le, lg_cmp_gt, lg_cmp_lt, lg_cmp_eq, Bool.false_eq_true, Bool.true_eq_false, reduceCtorEq, false_iff, true_iff, iff_true, iff_false, and_true, true_and, and_false, false_and, reduceIte, ite_true, ite_false, eq_self] at *)) <;> omega) ?_
                          refine wa_if_eq o_X12_isNode_293 (by decide) (fun h55 => ?_) (fun h55 => ?_)
                          · replace h55 := bI_f (b := (gb σ 130 (l4).toNatClampNeg)) (rfl) h55
                            refine wa_iconst (v := 0) (by decide) ?_
                            refine wa_istore_nD (lv' := [(3, .int (bI false)), (0, .ref 84), (4, .int l4)]) (i := 3) rfl (by decide) rfl ?_
                            refine wa_aload_n (i := 0) rfl rfl ?_
                            refine wa_getr ck_12 fl_12_117 ly_84 rf_84_44 ?_
                            refine wa_iload rfl ?_
                            refine wa_iald ly_195 (by ((try simp only [vp_in_iff, Int32.lt_iff_toInt_lt, Int32.le_iff_toInt_le, ← Int32.toInt_inj, Int32.reduceToInt, n_1, n_2, n_8, Int32.toNatClampNeg, Int64.lt_iff_toInt_lt, Int64.le_iff_toInt_le, ← Int64.toInt_inj, Int64.reduceToInt, Int32.toInt_toInt64, lg_cmp_ge, lg_cmp_le, lg_cmp_gt, lg_cmp_lt, lg_cmp_eq, Bool.false_eq_true, Bool.true_eq_false, reduceCtorEq, false_iff, true_iff, iff_true, iff_false, and_true, true_and, and_false, false_and, reduceIte, ite_true, ite_false, eq_self] at *)) <;> omega) ?_
                            refine wa_top (fun v56 hv56 => ?_)
                            have rv56 := nok_next P_NOK (s := (a0).toNatClampNeg) (by ((try simp only [vp_in_iff, Int32.lt_iff_toInt_lt, Int32.le_iff_toInt_le, ← Int32.toInt_inj, Int32.reduceToInt, n_1, n_2, n_8, Int32.toNatClampNeg, Int64.lt_iff_toInt_lt, Int64.le_iff_toInt_le, ← Int64.toInt_inj, Int64.reduceToInt, Int32.toInt_toInt64, lg_cmp_ge, lg_cmp_le, lg_cmp_gt, lg_cmp_lt, lg_cmp_eq, Bool.false_eq_true, Bool.true_eq_false, reduceCtorEq, false_iff, true_iff, iff_true, iff_false, and_true, true_and, and_false, false_and, reduceIte, ite_true, ite_false, eq_self] at *)) <;> omega) (by ((try simp only [vp_in_iff, Int32.lt_iff_toInt_lt, Int32.le_iff_toInt_le, ← Int32.toInt_inj, Int32.reduceToInt, n_1, n_2, n_8, Int32.toNatClampNeg, Int64.lt_iff_toInt_lt, Int64.le_iff_toInt_le, ← Int64.toInt_inj, Int64.reduceToInt, Int32.toInt_toInt64, lg_cmp_ge, lg_cmp_le, lg_cmp_gt, lg_cmp_lt, lg_cmp_eq, Bool.false_eq_true, Bool.true_eq_false, reduceCtorEq, false_iff, true_iff, iff_true, iff_false, and_true, true_and, and_false, false_and, reduceIte, ite_true, ite_false, eq_self] at *)) <;> omega) (by ((try simp only [vp_in_iff, Int32.lt_iff_toInt_lt, Int32.le_iff_toInt_le, ← Int32.toInt_inj, Int32.reduceToInt, n_1, n_2, n_8, Int32.toNatClampNeg, Int64.lt_iff_toInt_lt, Int64.le_iff_toInt_le, ← Int64.toInt_inj, Int64.reduceToInt, Int32.toInt_toInt64, lg_cmp_ge, lg_cmp_le, lg_cmp_gt, lg_cmp_lt, lg_cmp_eq, Bool.false_eq_true, Bool.true_eq_false, reduceCtorEq, false_iff, true_iff, iff_true, iff_false, and_true, true_and, and_false, false_and, reduceIte, ite_true, ite_false, eq_self] at *)) <;> omega) hv56
                            clear hv56
                            refine wa_istoreD (lv' := [(4, .int v56), (3, .int (bI false)), (0, .ref 84)]) (by decide) rfl ?_
                            refine wa_goto o_X12_isNode_269 (by decide) ?_
                            refine wa_pick [2, 1, 0] rfl ?_
                            exact ih50 _ (by ((try simp only [vp_in_iff, Int32.lt_iff_toInt_lt, Int32.le_iff_toInt_le, ← Int32.toInt_inj, Int32.reduceToInt, n_1, n_2, n_8, Int32.toNatClampNeg, Int64.lt_iff_toInt_lt, Int64.le_iff_toInt_le, ← Int64.toInt_inj, Int64.reduceToInt, Int32.toInt_toInt64, lg_cmp_ge, lg_cmp_le, lg_cmp_gt, lg_cmp_lt, lg_cmp_eq, Bool.false_eq_true, Bool.true_eq_false, reduceCtorEq, false_iff, true_iff, iff_true, iff_false, and_true, true_and, and_false, false_and, reduceIte, ite_true, ite_false, eq_self] at *)) <;> omega) _ _ ⟨(by ((try simp only [vp_in_iff, Int32.lt_iff_toInt_lt, Int32.le_iff_toInt_le, ← Int32.toInt_inj, Int32.reduceToInt, n_1, n_2, n_8, Int32.toNatClampNeg, Int64.lt_iff_toInt_lt, Int64.le_iff_toInt_le, ← Int64.toInt_inj, Int64.reduceToInt, Int32.toInt_toInt64, lg_cmp_ge, lg_cmp_le, lg_cmp_gt, lg_cmp_lt, lg_cmp_eq, Bool.false_eq_true, Bool.true_eq_false, reduceCtorEq, false_iff, true_iff, iff_true, iff_false, and_true, true_and, and_false, false_and, reduceIte, ite_true, ite_false, eq_self] at *)) <;> omega), trivial⟩ rfl
                          · replace h55 := bI_t (b := (gb σ 130 (l4).toNatClampNeg)) (rfl) h55
                            refine wa_iconst (v := 1) (by decide) ?_
                            refine wa_goto o_X12_isNode_294 (by decide) ?_
                            refine wa_istore_nD (lv' := [(3, .int (bI true)), (0, .ref 84), (4, .int l4)]) (i := 3) rfl (by decide) rfl ?_
                            refine wa_aload_n (i := 0) rfl rfl ?_
                            refine wa_getr ck_12 fl_12_117 ly_84 rf_84_44 ?_
                            refine wa_iload rfl ?_
                            refine wa_iald ly_195 (by ((try simp only [vp_in_iff, Int32.lt_iff_toInt_lt, Int32.le_iff_toInt_le, ← Int32.toInt_inj, Int32.reduceToInt, n_1, n_2, n_8, Int32.toNatClampNeg, Int64.lt_iff_toInt_lt, Int64.le_iff_toInt_le, ← Int64.toInt_inj, Int64.reduceToInt, Int32.toInt_toInt64, lg_cmp_ge, lg_cmp_le, lg_cmp_gt, lg_cmp_lt, lg_cmp_eq, Bool.false_eq_true, Bool.true_eq_false, reduceCtorEq, false_iff, true_iff, iff_true, iff_false, and_true, true_and, and_false, false_and, reduceIte, ite_true, ite_false, eq_self] at *)) <;> omega) ?_
                            refine wa_top (fun v57 hv57 => ?_)
                            have rv57 := nok_next P_NOK (s := (a0).toNatClampNeg) (by ((try simp only [vp_in_iff, Int32.lt_iff_toInt_lt, Int32.le_iff_toInt_le, ← Int32.toInt_inj, Int32.reduceToInt, n_1, n_2, n_8, Int32.toNatClampNeg, Int64.lt_iff_toInt_lt, Int64.le_iff_toInt_le, ← Int64.toInt_inj, Int64.reduceToInt, Int32.toInt_toInt64, lg_cmp_ge, lg_cmp_le, lg_cmp_gt, lg_cmp_lt, lg_cmp_eq, Bool.false_eq_true, Bool.true_eq_false, reduceCtorEq, false_iff, true_iff, iff_true, iff_false, and_true, true_and, and_false, false_and, reduceIte, ite_true, ite_false, eq_self] at *)) <;> omega) (by ((try simp only [vp_in_iff, Int32.lt_iff_toInt_lt, Int32.le_iff_toInt_le, ← Int32.toInt_inj, Int32.reduceToInt, n_1, n_2, n_8, Int32.toNatClampNeg, Int64.lt_iff_toInt_lt, Int64.le_iff_toInt_le, ← Int64.toInt_inj, Int64.reduceToInt, Int32.toInt_toInt64, lg_cmp_ge, lg_cmp_le, lg_cmp_gt, lg_cmp_lt, lg_cmp_eq, Bool.false_eq_true, Bool.true_eq_false, reduceCtorEq, false_iff, true_iff, iff_true, iff_false, and_true, true_and, and_false, false_and, reduceIte, ite_true, ite_false, eq_self] at *)) <;> omega) (by ((try simp only [vp_in_iff, Int32.lt_iff_toInt_lt, Int32.le_iff_toInt_le, ← Int32.toInt_inj, Int32.reduceToInt, n_1, n_2, n_8, Int32.toNatClampNeg, Int64.lt_iff_toInt_lt, Int64.le_iff_toInt_le, ← Int64.toInt_inj, Int64.reduceToInt, Int32.toInt_toInt64, lg_cmp_ge, lg_cmp_le, lg_cmp_gt, lg_cmp_lt, lg_cmp_eq, Bool.false_eq_true, Bool.true_eq_false, reduceCtorEq, false_iff, true_iff, iff_true, iff_false, and_true, true_and, and_false, false_and, reduceIte, ite_true, ite_false, eq_self] at *)) <;> omega) hv57
                            clear hv57
                            refine wa_istoreD (lv' := [(4, .int v57), (3, .int (bI true)), (0, .ref 84)]) (by decide) rfl ?_
                            refine wa_goto o_X12_isNode_269 (by decide) ?_
                            refine wa_pick [2, 1, 0] rfl ?_
                            exact ih50 _ (by ((try simp only [vp_in_iff, Int32.lt_iff_toInt_lt, Int32.le_iff_toInt_le, ← Int32.toInt_inj, Int32.reduceToInt, n_1, n_2, n_8, Int32.toNatClampNeg, Int64.lt_iff_toInt_lt, Int64.le_iff_toInt_le, ← Int64.toInt_inj, Int64.reduceToInt, Int32.toInt_toInt64, lg_cmp_ge, lg_cmp_le, lg_cmp_gt, lg_cmp_lt, lg_cmp_eq, Bool.false_eq_true, Bool.true_eq_false, reduceCtorEq, false_iff, true_iff, iff_true, iff_false, and_true, true_and, and_false, false_and, reduceIte, ite_true, ite_false, eq_self] at *)) <;> omega) _ _ ⟨(by ((try simp only [vp_in_iff, Int32.lt_iff_toInt_lt, Int32.le_iff_toInt_le, ← Int32.toInt_inj, Int32.reduceToInt, n_1, n_2, n_8, Int32.toNatClampNeg, Int64.lt_iff_toInt_lt, Int64.le_iff_toInt_le, ← Int64.toInt_inj, Int64.reduceToInt, Int32.toInt_toInt64, lg_cmp_ge, lg_cmp_le, lg_cmp_gt, lg_cmp_lt, lg_cmp_eq, Bool.false_eq_true, Bool.true_eq_false, reduceCtorEq, false_iff, true_iff, iff_true, iff_false, and_true, true_and, and_false, false_and, reduceIte, ite_true, ite_false, eq_self] at *)) <;> omega), trivial⟩ rfl
                  exact hi51 _ _ _ ⟨(by ((try simp only [vp_in_iff, Int32.lt_iff_toInt_lt, Int32.le_iff_toInt_le, ← Int32.toInt_inj, Int32.reduceToInt, n_1, n_2, n_8, Int32.toNatClampNeg, Int64.lt_iff_toInt_lt, Int64.le_iff_toInt_le, ← Int64.toInt_inj, Int64.reduceToInt, Int32.toInt_toInt64, lg_cmp_ge, lg_cmp_le, lg_cmp_gt, lg_cmp_lt, lg_cmp_eq, Bool.false_eq_true, Bool.true_eq_false, reduceCtorEq, false_iff, true_iff, iff_true, iff_false, and_true, true_and, and_false, false_and, reduceIte, ite_true, ite_false, eq_self] at *)) <;> omega), trivial⟩ rfl
                ·
                  by_cases h58 : q2 = 11
                  · refine wa_tIn (by rw [h58]; decide) (by rw [h58]; decide) (by rw [h58] <;> rfl) o_X12_isNode_259 (by decide) ?_
                    refine wa_iconst (v := 0) (by decide) ?_
                    refine wa_istore_nD (lv' := [(3, .int (bI false)), (0, .ref 84), (1, .int a0), (2, .int a1)]) (i := 3) rfl (by decide) rfl ?_
                    refine wa_aload_n (i := 0) rfl rfl ?_
                    refine wa_getr ck_12 fl_12_111 ly_84 rf_84_42 ?_
                    refine wa_iload_n (i := 2) rfl rfl ?_
                    refine wa_iald ly_197 (by ((try simp only [vp_in_iff, Int32.lt_iff_toInt_lt, Int32.le_iff_toInt_le, ← Int32.toInt_inj, Int32.reduceToInt, n_1, n_2, n_8, Int32.toNatClampNeg, Int64.lt_iff_toInt_lt, Int64.le_iff_toInt_le, ← Int64.toInt_inj, Int64.reduceToInt, Int32.toInt_toInt64, lg_cmp_ge, lg_cmp_le, lg_cmp_gt, lg_cmp_lt, lg_cmp_eq, Bool.false_eq_true, Bool.true_eq_false, reduceCtorEq, false_iff, true_iff, iff_true, iff_false, and_true, true_and, and_false, false_and, reduceIte, ite_true, ite_false, eq_self] at *)) <;> omega) ?_
                    refine wa_top (fun v59 hv59 => ?_)
                    have qv59 := hv59
                    clear hv59
                    refine wa_istoreD (lv' := [(4, .int v59), (3, .int (bI false)), (0, .ref 84), (1, .int a0), (2, .int a1)]) (by decide) rfl ?_
                    refine wa_pick [2, 1, 0] rfl ?_
                    have hi61 : ∀ (n9_269 : Nat) (l3 : Bool) (l4 : Int32), ((l4.toInt = -1 ∨ (250 * a0.toInt ≤ l4.toInt ∧ l4.toInt < 250 * a0.toInt + (gi σ 194 (a0).toNatClampNeg).toInt)) ∧ (True)) → (6501 - (l4.toInt + 6502) % 6502).toNat = n9_269 → WA G M_X12_isNode (ZM G M_X12_isNode d (fun r σ' => ∃ x : Bool, r = some (.int (bI x)) ∧ σ = σ' ∧ True)) B_X12_isNode_269 [(0, .ref 84), (3, .int (bI l3)), (4, .int l4)] [] σ := by
                      intro n9_269
                      induction n9_269 using Nat.strongRecOn with
                      | _ n9_269 ih60 =>
                        intro l3 l4  i9 m9_269
                        obtain ⟨jhi61_0, -⟩ := i9
                        have ul4 := Int32.toInt_lt l4
                        have wl4 := Int32.le_toInt l4
                        refine wa_iload rfl ?_
                        refine wa_iconst (v := (-1)) (by decide) ?_
                        refine wa_icmp_eq o_X12_isNode_307 (by decide) (fun h62 => ?_) (fun h62 => ?_)
                        · refine wa_iload_n (i := 3) rfl rfl ?_
                          refine wa_zreturn l3 (rfl) rfl rfl ?_
                          exact ⟨_, rfl, rfl, trivial⟩
                        · refine wa_iload_n (i := 3) rfl rfl ?_
                          refine wa_if_ne o_X12_isNode_289 (by decide) (fun h63 => ?_) (fun h63 => ?_)
                          · replace h63 := bI_t (b := l3) (rfl) h63
                            refine wa_iconst (v := 1) (by decide) ?_
                            refine wa_goto o_X12_isNode_294 (by decide) ?_
                            refine wa_istore_nD (lv' := [(3, .int (bI true)), (0, .ref 84), (4, .int l4)]) (i := 3) rfl (by decide) rfl ?_
                            refine wa_aload_n (i := 0) rfl rfl ?_
                            refine wa_getr ck_12 fl_12_117 ly_84 rf_84_44 ?_
                            refine wa_iload rfl ?_
                            refine wa_iald ly_195 (by ((try simp only [vp_in_iff, Int32.lt_iff_toInt_lt, Int32.le_iff_toInt_le, ← Int32.toInt_inj, Int32.reduceToInt, n_1, n_2, n_8, Int32.toNatClampNeg, Int64.lt_iff_toInt_lt, Int64.le_iff_toInt_le, ← Int64.toInt_inj, Int64.reduceToInt, Int32.toInt_toInt64, lg_cmp_ge, lg_cmp_le, lg_cmp_gt, lg_cmp_lt, lg_cmp_eq, Bool.false_eq_true, Bool.true_eq_false, reduceCtorEq, false_iff, true_iff, iff_true, iff_false, and_true, true_and, and_false, false_and, reduceIte, ite_true, ite_false, eq_self] at *)) <;> omega) ?_
                            refine wa_top (fun v64 hv64 => ?_)
                            have rv64 := nok_next P_NOK (s := (a0).toNatClampNeg) (by ((try simp only [vp_in_iff, Int32.lt_iff_toInt_lt, Int32.le_iff_toInt_le, ← Int32.toInt_inj, Int32.reduceToInt, n_1, n_2, n_8, Int32.toNatClampNeg, Int64.lt_iff_toInt_lt, Int64.le_iff_toInt_le, ← Int64.toInt_inj, Int64.reduceToInt, Int32.toInt_toInt64, lg_cmp_ge, lg_cmp_le, lg_cmp_gt, lg_cmp_lt, lg_cmp_eq, Bool.false_eq_true, Bool.true_eq_false, reduceCtorEq, false_iff, true_iff, iff_true, iff_false, and_true, true_and, and_false, false_and, reduceIte, ite_true, ite_false, eq_self] at *)) <;> omega) (by ((try simp only [vp_in_iff, Int32.lt_iff_toInt_lt, Int32.le_iff_toInt_le, ← Int32.toInt_inj, Int32.reduceToInt, n_1, n_2, n_8, Int32.toNatClampNeg, Int64.lt_iff_toInt_lt, Int64.le_iff_toInt_le, ← Int64.toInt_inj, Int64.reduceToInt, Int32.toInt_toInt64, lg_cmp_ge, lg_cmp_le, lg_cmp_gt, lg_cmp_lt, lg_cmp_eq, Bool.false_eq_true, Bool.true_eq_false, reduceCtorEq, false_iff, true_iff, iff_true, iff_false, and_true, true_and, and_false, false_and, reduceIte, ite_true, ite_false, eq_self] at *)) <;> omega) (by ((try simp only [vp_in_iff, Int32.lt_iff_toInt_lt, Int32.le_iff_toInt_le, ← Int32.toInt_inj, Int32.reduceToInt, n_1, n_2, n_8, Int32.toNatClampNeg, Int64.lt_iff_toInt_lt, Int64.le_iff_toInt_le, ← Int64.toInt_inj, Int64.reduceToInt, Int32.toInt_toInt64, lg_cmp_ge, lg_cmp_le, lg_cmp_gt, lg_cmp_lt, lg_cmp_eq, Bool.false_eq_true, Bool.true_eq_false, reduceCtorEq, false_iff, true_iff, iff_true, iff_false, and_true, true_and, and_false, false_and, reduceIte, ite_true, ite_false, eq_self] at *)) <;> omega) hv64
                            clear hv64
                            refine wa_istoreD (lv' := [(4, .int v64), (3, .int (bI true)), (0, .ref 84)]) (by decide) rfl ?_
                            refine wa_goto o_X12_isNode_269 (by decide) ?_
                            refine wa_pick [2, 1, 0] rfl ?_
                            exact ih60 _ (by ((try simp only [vp_in_iff, Int32.lt_iff_toInt_lt, Int32.le_iff_toInt_le, ← Int32.toInt_inj, Int32.reduceToInt, n_1, n_2, n_8, Int32.toNatClampNeg, Int64.lt_iff_toInt_lt, Int64.le_iff_toInt_le, ← Int64.toInt_inj, Int64.reduceToInt, Int32.toInt_toInt64, lg_cmp_ge, lg_cmp_le, lg_cmp_gt, lg_cmp_lt, lg_cmp_eq, Bool.false_eq_true, Bool.true_eq_false, reduceCtorEq, false_iff, true_iff, iff_true, iff_false, and_true, true_and, and_false, false_and, reduceIte, ite_true, ite_false, eq_self] at *)) <;> omega) _ _ ⟨(by ((try simp only [vp_in_iff, Int32.lt_iff_toInt_lt, Int32.le_iff_toInt_le, ← Int32.toInt_inj, Int32.reduceToInt, n_1, n_2, n_8, Int32.toNatClampNeg, Int64.lt_iff_toInt_lt, Int64.le_iff_toInt_le, ← Int64.toInt_inj, Int64.reduceToInt, Int32.toInt_toInt64, lg_cmp_ge, lg_cmp_le, lg_cmp_gt, lg_cmp_lt, lg_cmp_eq, Bool.false_eq_true, Bool.true_eq_false, reduceCtorEq, false_iff, true_iff, iff_true, iff_false, and_true, true_and, and_false, false_and, reduceIte, ite_true, ite_false, eq_self] at *)) <;> omega), trivial⟩ rfl
                          · replace h63 := bI_f (b := l3) (rfl) h63
                            refine wa_aload_n (i := 0) rfl rfl ?_
                            refine wa_getr ck_12 fl_12_313 ly_84 rf_84_124 ?_
                            refine wa_iload rfl ?_
                            refine wa_zald ly_130 (by ((try simp only [vp_in_iff, Int32.lt_iff_toInt_lt, Int32.le_iff_toInt_le, ← Int32.toInt_inj, Int32.reduceToInt, n_1, n_2, n_8, Int32.toNatClampNeg, Int64.lt_iff_toInt_lt, Int64.le_iff_toInt_le, ← Int64.toInt_inj, Int64.reduceToInt, Int32.toInt_toInt64, lg_cmp_ge, lg_cmp_le, lg_cmp_gt, lg_cmp_lt, lg_cmp_eq, Bool.false_eq_true, Bool.true_eq_false, reduceCtorEq, false_iff, true_iff, iff_true, iff_false, and_true, true_and, and_false, false_and, reduceIte, ite_true, ite_false, eq_self] at *)) <;> omega) ?_
                            refine wa_if_eq o_X12_isNode_293 (by decide) (fun h65 => ?_) (fun h65 => ?_)
                            · replace h65 := bI_f (b := (gb σ 130 (l4).toNatClampNeg)) (rfl) h65
                              refine wa_iconst (v := 0) (by decide) ?_
                              refine wa_istore_nD (lv' := [(3, .int (bI false)), (0, .ref 84), (4, .int l4)]) (i := 3) rfl (by decide) rfl ?_
                              refine wa_aload_n (i := 0) rfl rfl ?_
                              refine wa_getr ck_12 fl_12_117 ly_84 rf_84_44 ?_
                              refine wa_iload rfl ?_
                              refine wa_iald ly_195 (by ((try simp only [vp_in_iff, Int32.lt_iff_toInt_lt, Int32.le_iff_toInt_le, ← Int32.toInt_inj, Int32.reduceToInt, n_1, n_2, n_8, Int32.toNatClampNeg, Int64.lt_iff_toInt_lt, Int64.le_iff_toInt_le, ← Int64.toInt_inj, Int64.reduceToInt, Int32.toInt_toInt64, lg_cmp_ge, lg_cmp_le, lg_cmp_gt, lg_cmp_lt, lg_cmp_eq, Bool.false_eq_true, Bool.true_eq_false, reduceCtorEq, false_iff, true_iff, iff_true, iff_false, and_true, true_and, and_false, false_and, reduceIte, ite_true, ite_false, eq_self] at *)) <;> omega) ?_
                              refine wa_top (fun v66 hv66 => ?_)
                              have rv66 := nok_next P_NOK (s := (a0).toNatClampNeg) (by ((try simp only [vp_in_iff, Int32.lt_iff_toInt_lt, Int32.le_iff_toInt_le, ← Int32.toInt_inj, Int32.reduceToInt, n_1, n_2, n_8, Int32.toNatClampNeg, Int64.lt_iff_toInt_lt, Int64.le_iff_toInt_le, ← Int64.toInt_inj, Int64.reduceToInt, Int32.toInt_toInt64, lg_cmp_ge, lg_cmp_le, lg_cmp_gt, lg_cmp_lt, lg_cmp_eq, Bool.false_eq_true, Bool.true_eq_false, reduceCtorEq, false_iff, true_iff, iff_true, iff_false, and_true, true_and, and_false, false_and, reduceIte, ite_true, ite_false, eq_self] at *)) <;> omega) (by ((try simp only [vp_in_iff, Int32.lt_iff_toInt_lt, Int32.le_iff_toInt_le, ← Int32.toInt_inj, Int32.reduceToInt, n_1, n_2, n_8, Int32.toNatClampNeg, Int64.lt_iff_toInt_lt, Int64.le_iff_toInt_le, ← Int64.toInt_inj, Int64.reduceToInt, Int32.toInt_toInt64, lg_cmp_ge, lg_cmp_le, lg_cmp_gt, lg_cmp_lt, lg_cmp_eq, Bool.false_eq_true, Bool.true_eq_false, reduceCtorEq, false_iff, true_iff, iff_true, iff_false, and_true, true_and, and_false, false_and, reduceIte, ite_true, ite_false, eq_self] at *)) <;> omega) (by ((try simp only [vp_in_iff, Int32.lt_iff_toInt_lt, Int32.le_iff_toInt_le, ← Int32.toInt_inj, Int32.reduceToInt, n_1, n_2, n_8, Int32.toNatClampNeg, Int64.lt_iff_toInt_lt, Int64.le_iff_toInt_le, ← Int64.toInt_inj, Int64.reduceToInt, Int32.toInt_toInt64, lg_cmp_ge, lg_cmp_le, lg_cmp_gt, lg_cmp_lt, lg_cmp_eq, Bool.false_eq_true, Bool.true_eq_false, reduceCtorEq, false_iff, true_iff, iff_true, iff_false, and_true, true_and, and_false, false_and, reduceIte, ite_true, ite_false, eq_self] at *)) <;> omega) hv66
                              clear hv66
                              refine wa_istoreD (lv' := [(4, .int v66), (3, .int (bI false)), (0, .ref 84)]) (by decide) rfl ?_
                              refine wa_goto o_X12_isNode_269 (by decide) ?_
                              refine wa_pick [2, 1, 0] rfl ?_
                              exact ih60 _ (by ((try simp only [vp_in_iff, Int32.lt_iff_toInt_lt, Int32.le_iff_toInt_le, ← Int32.toInt_inj, Int32.reduceToInt, n_1, n_2, n_8, Int32.toNatClampNeg, Int64.lt_iff_toInt_lt, Int64.le_iff_toInt_le, ← Int64.toInt_inj, Int64.reduceToInt, Int32.toInt_toInt64, lg_cmp_ge, lg_cmp_le, lg_cmp_gt, lg_cmp_lt, lg_cmp_eq, Bool.false_eq_true, Bool.true_eq_false, reduceCtorEq, false_iff, true_iff, iff_true, iff_false, and_true, true_and, and_false, false_and, reduceIte, ite_true, ite_false, eq_self] at *)) <;> omega) _ _ ⟨(by ((try simp only [vp_in_iff, Int32.lt_iff_toInt_lt, Int32.le_iff_toInt_le, ← Int32.toInt_inj, Int32.reduceToInt, n_1, n_2, n_8, Int32.toNatClampNeg, Int64.lt_iff_toInt_lt, Int64.le_iff_toInt_le, ← Int64.toInt_inj, Int64.reduceToInt, Int32.toInt_toInt64, lg_cmp_ge, lg_cmp_le, lg_cmp_gt, lg_cmp_lt, lg_cmp_eq, Bool.false_eq_true, Bool.true_eq_false, reduceCtorEq, false_iff, true_iff, iff_true, iff_false, and_true, true_and, and_false, false_and, reduceIte, ite_true, ite_false, eq_self] at *)) <;> omega), trivial⟩ rfl
                            · replace h65 := bI_t (b := (gb σ 130 (l4).toNatClampNeg)) (rfl) h65
                              refine wa_iconst (v := 1) (by decide) ?_
                              refine wa_goto o_X12_isNode_294 (by decide) ?_
                              refine wa_istore_nD (lv' := [(3, .int (bI true)), (0, .ref 84), (4, .int l4)]) (i := 3) rfl (by decide) rfl ?_
                              refine wa_aload_n (i := 0) rfl rfl ?_
                              refine wa_getr ck_12 fl_12_117 ly_84 rf_84_44 ?_
                              refine wa_iload rfl ?_
                              refine wa_iald ly_195 (by ((try simp only [vp_in_iff, Int32.lt_iff_toInt_lt, Int32.le_iff_toInt_le, ← Int32.toInt_inj, Int32.reduceToInt, n_1, n_2, n_8, Int32.toNatClampNeg, Int64.lt_iff_toInt_lt, Int64.le_iff_toInt_le, ← Int64.toInt_inj, Int64.reduceToInt, Int32.toInt_toInt64, lg_cmp_ge, lg_cmp_le, lg_cmp_gt, lg_cmp_lt, lg_cmp_eq, Bool.false_eq_true, Bool.true_eq_false, reduceCtorEq, false_iff, true_iff, iff_true, iff_false, and_true, true_and, and_false, false_and, reduceIte, ite_true, ite_false, eq_self] at *)) <;> omega) ?_
                              refine wa_top (fun v67 hv67 => ?_)
                              have rv67 := nok_next P_NOK (s := (a0).toNatClampNeg) (by ((try simp only [vp_in_iff, Int32.lt_iff_toInt_lt, Int32.le_iff_toInt_le, ← Int32.toInt_inj, Int32.reduceToInt, n_1, n_2, n_8, Int32.toNatClampNeg, Int64.lt_iff_toInt_lt, Int64.le_iff_toInt_le, ← Int64.toInt_inj, Int64.reduceToInt, Int32.toInt_toInt64, lg_cmp_ge, lg_cmp_le, lg_cmp_gt, lg_cmp_lt, lg_cmp_eq, Bool.false_eq_true, Bool.true_eq_false, reduceCtorEq, false_iff, true_iff, iff_true, iff_false, and_true, true_and, and_false, false_and, reduceIte, ite_true, ite_false, eq_self] at *)) <;> omega) (by ((try simp only [vp_in_iff, Int32.lt_iff_toInt_lt, Int32.le_iff_toInt_le, ← Int32.toInt_inj, Int32.reduceToInt, n_1, n_2, n_8, Int32.toNatClampNeg, Int64.lt_iff_toInt_lt, Int64.le_iff_toInt_le, ← Int64.toInt_inj, Int64.reduceToInt, Int32.toInt_toInt64, lg_cmp_ge, lg_cmp_le, lg_cmp_gt, lg_cmp_lt, lg_cmp_eq, Bool.false_eq_true, Bool.true_eq_false, reduceCtorEq, false_iff, true_iff, iff_true, iff_false, and_true, true_and, and_false, false_and, reduceIte, ite_true, ite_false, eq_self] at *)) <;> omega) (by ((try simp only [vp_in_iff, Int32.lt_iff_toInt_lt, Int32.le_iff_toInt_le, ← Int32.toInt_inj, Int32.reduceToInt, n_1, n_2, n_8, Int32.toNatClampNeg, Int64.lt_iff_toInt_lt, Int64.le_iff_toInt_le, ← Int64.toInt_inj, Int64.reduceToInt, Int32.toInt_toInt64, lg_cmp_ge, lg_cmp_le, lg_cmp_gt, lg_cmp_lt, lg_cmp_eq, Bool.false_eq_true, Bool.true_eq_false, reduceCtorEq, false_iff, true_iff, iff_true, iff_false, and_true, true_and, and_false, false_and, reduceIte, ite_true, ite_false, eq_self] at *)) <;> omega) hv67
                              clear hv67
                              refine wa_istoreD (lv' := [(4, .int v67), (3, .int (bI true)), (0, .ref 84)]) (by decide) rfl ?_
                              refine wa_goto o_X12_isNode_269 (by decide) ?_
                              refine wa_pick [2, 1, 0] rfl ?_
                              exact ih60 _ (by ((try simp only [vp_in_iff, Int32.lt_iff_toInt_lt, Int32.le_iff_toInt_le, ← Int32.toInt_inj, Int32.reduceToInt, n_1, n_2, n_8, Int32.toNatClampNeg, Int64.lt_iff_toInt_lt, Int64.le_iff_toInt_le, ← Int64.toInt_inj, Int64.reduceToInt, Int32.toInt_toInt64, lg_cmp_ge, lg_cmp_le, lg_cmp_gt, lg_cmp_lt, lg_cmp_eq, Bool.false_eq_true, Bool.true_eq_false, reduceCtorEq, false_iff, true_iff, iff_true, iff_false, and_true, true_and, and_false, false_and, reduceIte, ite_true, ite_false, eq_self] at *)) <;> omega) _ _ ⟨(by ((try simp only [vp_in_iff, Int32.lt_iff_toInt_lt, Int32.le_iff_toInt_le, ← Int32.toInt_inj, Int32.reduceToInt, n_1, n_2, n_8, Int32.toNatClampNeg, Int64.lt_iff_toInt_lt, Int64.le_iff_toInt_le, ← Int64.toInt_inj, Int64.reduceToInt, Int32.toInt_toInt64, lg_cmp_ge, lg_cmp_le, lg_cmp_gt, lg_cmp_lt, lg_cmp_eq, Bool.false_eq_true, Bool.true_eq_false, reduceCtorEq, false_iff, true_iff, iff_true, iff_false, and_true, true_and, and_false, false_and, reduceIte, ite_true, ite_false, eq_self] at *)) <;> omega), trivial⟩ rfl
                    exact hi61 _ _ _ ⟨(by ((try simp only [vp_in_iff, Int32.lt_iff_toInt_lt, Int32.le_iff_toInt_le, ← Int32.toInt_inj, Int32.reduceToInt, n_1, n_2, n_8, Int32.toNatClampNeg, Int64.lt_iff_toInt_lt, Int64.le_iff_toInt_le, ← Int64.toInt_inj, Int64.reduceToInt, Int32.toInt_toInt64, lg_cmp_ge, lg_cmp_le, lg_cmp_gt, lg_cmp_lt, lg_cmp_eq, Bool.false_eq_true, Bool.true_eq_false, reduceCtorEq, false_iff, true_iff, iff_true, iff_false, and_true, true_and, and_false, false_and, reduceIte, ite_true, ite_false, eq_self] at *)) <;> omega), trivial⟩ rfl
                  ·
                    by_cases h68 : q2 = 12
                    · refine wa_tIn (by rw [h68]; decide) (by rw [h68]; decide) (by rw [h68] <;> rfl) o_X12_isNode_259 (by decide) ?_
                      refine wa_iconst (v := 0) (by decide) ?_
                      refine wa_istore_nD (lv' := [(3, .int (bI false)), (0, .ref 84), (1, .int a0), (2, .int a1)]) (i := 3) rfl (by decide) rfl ?_
                      refine wa_aload_n (i := 0) rfl rfl ?_
                      refine wa_getr ck_12 fl_12_111 ly_84 rf_84_42 ?_
                      refine wa_iload_n (i := 2) rfl rfl ?_
                      refine wa_iald ly_197 (by ((try simp only [vp_in_iff, Int32.lt_iff_toInt_lt, Int32.le_iff_toInt_le, ← Int32.toInt_inj, Int32.reduceToInt, n_1, n_2, n_8, Int32.toNatClampNeg, Int64.lt_iff_toInt_lt, Int64.le_iff_toInt_le, ← Int64.toInt_inj, Int64.reduceToInt, Int32.toInt_toInt64, lg_cmp_ge, lg_cmp_le, lg_cmp_gt, lg_cmp_lt, lg_cmp_eq, Bool.false_eq_true, Bool.true_eq_false, reduceCtorEq, false_iff, true_iff, iff_true, iff_false, and_true, true_and, and_false, false_and, reduceIte, ite_true, ite_false, eq_self] at *)) <;> omega) ?_
                      refine wa_top (fun v69 hv69 => ?_)
                      have qv69 := hv69
                      clear hv69
                      refine wa_istoreD (lv' := [(4, .int v69), (3, .int (bI false)), (0, .ref 84), (1, .int a0), (2, .int a1)]) (by decide) rfl ?_
                      refine wa_pick [2, 1, 0] rfl ?_
                      have hi71 : ∀ (n9_269 : Nat) (l3 : Bool) (l4 : Int32), ((l4.toInt = -1 ∨ (250 * a0.toInt ≤ l4.toInt ∧ l4.toInt < 250 * a0.toInt + (gi σ 194 (a0).toNatClampNeg).toInt)) ∧ (True)) → (6501 - (l4.toInt + 6502) % 6502).toNat = n9_269 → WA G M_X12_isNode (ZM G M_X12_isNode d (fun r σ' => ∃ x : Bool, r = some (.int (bI x)) ∧ σ = σ' ∧ True)) B_X12_isNode_269 [(0, .ref 84), (3, .int (bI l3)), (4, .int l4)] [] σ := by
                        intro n9_269
                        induction n9_269 using Nat.strongRecOn with
                        | _ n9_269 ih70 =>
                          intro l3 l4  i9 m9_269
                          obtain ⟨jhi71_0, -⟩ := i9
                          have ul4 := Int32.toInt_lt l4
                          have wl4 := Int32.le_toInt l4
                          refine wa_iload rfl ?_
                          refine wa_iconst (v := (-1)) (by decide) ?_
                          refine wa_icmp_eq o_X12_isNode_307 (by decide) (fun h72 => ?_) (fun h72 => ?_)
                          · refine wa_iload_n (i := 3) rfl rfl ?_
                            refine wa_zreturn l3 (rfl) rfl rfl ?_
                            exact ⟨_, rfl, rfl, trivial⟩
                          · refine wa_iload_n (i := 3) rfl rfl ?_
                            refine wa_if_ne o_X12_isNode_289 (by decide) (fun h73 => ?_) (fun h73 => ?_)
                            · replace h73 := bI_t (b := l3) (rfl) h73
                              refine wa_iconst (v := 1) (by decide) ?_
                              refine wa_goto o_X12_isNode_294 (by decide) ?_
                              refine wa_istore_nD (lv' := [(3, .int (bI true)), (0, .ref 84), (4, .int l4)]) (i := 3) rfl (by decide) rfl ?_
                              refine wa_aload_n (i := 0) rfl rfl ?_
                              refine wa_getr ck_12 fl_12_117 ly_84 rf_84_44 ?_
                              refine wa_iload rfl ?_
                              refine wa_iald ly_195 (by ((try simp only [vp_in_iff, Int32.lt_iff_toInt_lt, Int32.le_iff_toInt_le, ← Int32.toInt_inj, Int32.reduceToInt, n_1, n_2, n_8, Int32.toNatClampNeg, Int64.lt_iff_toInt_lt, Int64.le_iff_toInt_le, ← Int64.toInt_inj, Int64.reduceToInt, Int32.toInt_toInt64, lg_cmp_ge, lg_cmp_le, lg_cmp_gt, lg_cmp_lt, lg_cmp_eq, Bool.false_eq_true, Bool.true_eq_false, reduceCtorEq, false_iff, true_iff, iff_true, iff_false, and_true, true_and, and_false, false_and, reduceIte, ite_true, ite_false, eq_self] at *)) <;> omega) ?_
                              refine wa_top (fun v74 hv74 => ?_)
                              have rv74 := nok_next P_NOK (s := (a0).toNatClampNeg) (by ((try simp only [vp_in_iff, Int32.lt_iff_toInt_lt, Int32.le_iff_toInt_le, ← Int32.toInt_inj, Int32.reduceToInt, n_1, n_2, n_8, Int32.toNatClampNeg, Int64.lt_iff_toInt_lt, Int64.le_iff_toInt_le, ← Int64.toInt_inj, Int64.reduceToInt, Int32.toInt_toInt64, lg_cmp_ge, lg_cmp_le, lg_cmp_gt, lg_cmp_lt, lg_cmp_eq, Bool.false_eq_true, Bool.true_eq_false, reduceCtorEq, false_iff, true_iff, iff_true, iff_false, and_true, true_and, and_false, false_and, reduceIte, ite_true, ite_false, eq_self] at *)) <;> omega) (by ((try simp only [vp_in_iff, Int32.lt_iff_toInt_lt, Int32.le_iff_toInt_le, ← Int32.toInt_inj, Int32.reduceToInt, n_1, n_2, n_8, Int32.toNatClampNeg, Int64.lt_iff_toInt_lt, Int64.le_iff_toInt_le, ← Int64.toInt_inj, Int64.reduceToInt, Int32.toInt_toInt64, lg_cmp_ge, lg_cmp_le, lg_cmp_gt, lg_cmp_lt, lg_cmp_eq, Bool.false_eq_true, Bool.true_eq_false, reduceCtorEq, false_iff, true_iff, iff_true, iff_false, and_true, true_and, and_false, false_and, reduceIte, ite_true, ite_false, eq_self] at *)) <;> omega) (by ((try simp only [vp_in_iff, Int32.lt_iff_toInt_lt, Int32.le_iff_toInt_le, ← Int32.toInt_inj, Int32.reduceToInt, n_1, n_2, n_8, Int32.toNatClampNeg, Int64.lt_iff_toInt_lt, Int64.le_iff_toInt_le, ← Int64.toInt_inj, Int64.reduceToInt, Int32.toInt_toInt64, lg_cmp_ge, lg_cmp_le, lg_cmp_gt, lg_cmp_lt, lg_cmp_eq, Bool.false_eq_true, Bool.true_eq_false, reduceCtorEq, false_iff, true_iff, iff_true, iff_false, and_true, true_and, and_false, false_and, reduceIte, ite_true, ite_false, eq_self] at *)) <;> omega) hv74
                              clear hv74
                              refine wa_istoreD (lv' := [(4, .int v74), (3, .int (bI true)), (0, .ref 84)]) (by decide) rfl ?_
                              refine wa_goto o_X12_isNode_269 (by decide) ?_
                              refine wa_pick [2, 1, 0] rfl ?_
                              exact ih70 _ (by ((try simp only [vp_in_iff, Int32.lt_iff_toInt_lt, Int32.le_iff_toInt_le, ← Int32.toInt_inj, Int32.reduceToInt, n_1, n_2, n_8, Int32.toNatClampNeg, Int64.lt_iff_toInt_lt, Int64.le_iff_toInt_le, ← Int64.toInt_inj, Int64.reduceToInt, Int32.toInt_toInt64, lg_cmp_ge, lg_cmp_le, lg_cmp_gt, lg_cmp_lt, lg_cmp_eq, Bool.false_eq_true, Bool.true_eq_false, reduceCtorEq, false_iff, true_iff, iff_true, iff_false, and_true, true_and, and_false, false_and, reduceIte, ite_true, ite_false, eq_self] at *)) <;> omega) _ _ ⟨(by ((try simp only [vp_in_iff, Int32.lt_iff_toInt_lt, Int32.le_iff_toInt_le, ← Int32.toInt_inj, Int32.reduceToInt, n_1, n_2, n_8, Int32.toNatClampNeg, Int64.lt_iff_toInt_lt, Int64.le_iff_toInt_le, ← Int64.toInt_inj, Int64.reduceToInt, Int32.toInt_toInt64, lg_cmp_ge, lg_cmp_le, lg_cmp_gt, lg_cmp_lt, lg_cmp_eq, Bool.false_eq_true, Bool.true_eq_false, reduceCtorEq, false_iff, true_iff, iff_true, iff_false, and_true, true_and, and_false, false_and, reduceIte, ite_true, ite_false, eq_self] at *)) <;> omega), trivial⟩ rfl
                            · replace h73 := bI_f (b := l3) (rfl) h73
                              refine wa_aload_n (i := 0) rfl rfl ?_
                              refine wa_getr ck_12 fl_12_313 ly_84 rf_84_124 ?_
                              refine wa_iload rfl ?_
                              refine wa_zald ly_130 (by ((try simp only [vp_in_iff, Int32.lt_iff_toInt_lt, Int32.le_iff_toInt_le, ← Int32.toInt_inj, Int32.reduceToInt, n_1, n_2, n_8, Int32.toNatClampNeg, Int64.lt_iff_toInt_lt, Int64.le_iff_toInt_le, ← Int64.toInt_inj, Int64.reduceToInt, Int32.toInt_toInt64, lg_cmp_ge, lg_cmp_le, lg_cmp_gt, lg_cmp_lt, lg_cmp_eq, Bool.false_eq_true, Bool.true_eq_false, reduceCtorEq, false_iff, true_iff, iff_true, iff_false, and_true, true_and, and_false, false_and, reduceIte, ite_true, ite_false, eq_self] at *)) <;> omega) ?_
                              refine wa_if_eq o_X12_isNode_293 (by decide) (fun h75 => ?_) (fun h75 => ?_)
                              · replace h75 := bI_f (b := (gb σ 130 (l4).toNatClampNeg)) (rfl) h75
                                refine wa_iconst (v := 0) (by decide) ?_
                                refine wa_istore_nD (lv' := [(3, .int (bI false)), (0, .ref 84), (4, .int l4)]) (i := 3) rfl (by decide) rfl ?_
                                refine wa_aload_n (i := 0) rfl rfl ?_
                                refine wa_getr ck_12 fl_12_117 ly_84 rf_84_44 ?_
                                refine wa_iload rfl ?_
                                refine wa_iald ly_195 (by ((try simp only [vp_in_iff, Int32.lt_iff_toInt_lt, Int32.le_iff_toInt_le, ← Int32.toInt_inj, Int32.reduceToInt, n_1, n_2, n_8, Int32.toNatClampNeg, Int64.lt_iff_toInt_lt, Int64.le_iff_toInt_le, ← Int64.toInt_inj, Int64.reduceToInt, Int32.toInt_toInt64, lg_cmp_ge, lg_cmp_le, lg_cmp_gt, lg_cmp_lt, lg_cmp_eq, Bool.false_eq_true, Bool.true_eq_false, reduceCtorEq, false_iff, true_iff, iff_true, iff_false, and_true, true_and, and_false, false_and, reduceIte, ite_true, ite_false, eq_self] at *)) <;> omega) ?_
                                refine wa_top (fun v76 hv76 => ?_)
                                have rv76 := nok_next P_NOK (s := (a0).toNatClampNeg) (by ((try simp only [vp_in_iff, Int32.lt_iff_toInt_lt, Int32.le_iff_toInt_le, ← Int32.toInt_inj, Int32.reduceToInt, n_1, n_2, n_8, Int32.toNatClampNeg, Int64.lt_iff_toInt_lt, Int64.le_iff_toInt_le, ← Int64.toInt_inj, Int64.reduceToInt, Int32.toInt_toInt64, lg_cmp_ge, lg_cmp_le, lg_cmp_gt, lg_cmp_lt, lg_cmp_eq, Bool.false_eq_true, Bool.true_eq_false, reduceCtorEq, false_iff, true_iff, iff_true, iff_false, and_true, true_and, and_false, false_and, reduceIte, ite_true, ite_false, eq_self] at *)) <;> omega) (by ((try simp only [vp_in_iff, Int32.lt_iff_toInt_lt, Int32.le_iff_toInt_le, ← Int32.toInt_inj, Int32.reduceToInt, n_1, n_2, n_8, Int32.toNatClampNeg, Int64.lt_iff_toInt_lt, Int64.le_iff_toInt_le, ← Int64.toInt_inj, Int64.reduceToInt, Int32.toInt_toInt64, lg_cmp_ge, lg_cmp_le, lg_cmp_gt, lg_cmp_lt, lg_cmp_eq, Bool.false_eq_true, Bool.true_eq_false, reduceCtorEq, false_iff, true_iff, iff_true, iff_false, and_true, true_and, and_false, false_and, reduceIte, ite_true, ite_false, eq_self] at *)) <;> omega) (by ((try simp only [vp_in_iff, Int32.lt_iff_toInt_lt, Int32.le_iff_toInt_le, ← Int32.toInt_inj, Int32.reduceToInt, n_1, n_2, n_8, Int32.toNatClampNeg, Int64.lt_iff_toInt_lt, Int64.le_iff_toInt_le, ← Int64.toInt_inj, Int64.reduceToInt, Int32.toInt_toInt64, lg_cmp_ge, lg_cmp_le, lg_cmp_gt, lg_cmp_lt, lg_cmp_eq, Bool.false_eq_true, Bool.true_eq_false, reduceCtorEq, false_iff, true_iff, iff_true, iff_false, and_true, true_and, and_false, false_and, reduceIte, ite_true, ite_false, eq_self] at *)) <;> omega) hv76
                                clear hv76
                                refine wa_istoreD (lv' := [(4, .int v76), (3, .int (bI false)), (0, .ref 84)]) (by decide) rfl ?_
                                refine wa_goto o_X12_isNode_269 (by decide) ?_
                                refine wa_pick [2, 1, 0] rfl ?_
                                exact ih70 _ (by ((try simp only [vp_in_iff, Int32.lt_iff_toInt_lt, Int32.le_iff_toInt_le, ← Int32.toInt_inj, Int32.reduceToInt, n_1, n_2, n_8, Int32.toNatClampNeg, Int64.lt_iff_toInt_lt, Int64.le_iff_toInt_le, ← Int64.toInt_inj, Int64.reduceToInt, Int32.toInt_toInt64, lg_cmp_ge, lg_cmp_le, lg_cmp_gt, lg_cmp_lt, lg_cmp_eq, Bool.false_eq_true, Bool.true_eq_false, reduceCtorEq, false_iff, true_iff, iff_true, iff_false, and_true, true_and, and_false, false_and, reduceIte, ite_true, ite_false, eq_self] at *)) <;> omega) _ _ ⟨(by ((try simp only [vp_in_iff, Int32.lt_iff_toInt_lt, Int32.le_iff_toInt_le, ← Int32.toInt_inj, Int32.reduceToInt, n_1, n_2, n_8, Int32.toNatClampNeg, Int64.lt_iff_toInt_lt, Int64.le_iff_toInt_le, ← Int64.toInt_inj, Int64.reduceToInt, Int32.toInt_toInt64, lg_cmp_ge, lg_cmp_le, lg_cmp_gt, lg_cmp_lt, lg_cmp_eq, Bool.false_eq_true, Bool.true_eq_false, reduceCtorEq, false_iff, true_iff, iff_true, iff_false, and_true, true_and, and_false, false_and, reduceIte, ite_true, ite_false, eq_self] at *)) <;> omega), trivial⟩ rfl
                              · replace h75 := bI_t (b := (gb σ 130 (l4).toNatClampNeg)) (rfl) h75
                                refine wa_iconst (v := 1) (by decide) ?_
                                refine wa_goto o_X12_isNode_294 (by decide) ?_
                                refine wa_istore_nD (lv' := [(3, .int (bI true)), (0, .ref 84), (4, .int l4)]) (i := 3) rfl (by decide) rfl ?_
                                refine wa_aload_n (i := 0) rfl rfl ?_
                                refine wa_getr ck_12 fl_12_117 ly_84 rf_84_44 ?_
                                refine wa_iload rfl ?_
                                refine wa_iald ly_195 (by ((try simp only [vp_in_iff, Int32.lt_iff_toInt_lt, Int32.le_iff_toInt_le, ← Int32.toInt_inj, Int32.reduceToInt, n_1, n_2, n_8, Int32.toNatClampNeg, Int64.lt_iff_toInt_lt, Int64.le_iff_toInt_le, ← Int64.toInt_inj, Int64.reduceToInt, Int32.toInt_toInt64, lg_cmp_ge, lg_cmp_le, lg_cmp_gt, lg_cmp_lt, lg_cmp_eq, Bool.false_eq_true, Bool.true_eq_false, reduceCtorEq, false_iff, true_iff, iff_true, iff_false, and_true, true_and, and_false, false_and, reduceIte, ite_true, ite_false, eq_self] at *)) <;> omega) ?_
                                refine wa_top (fun v77 hv77 => ?_)
                                have rv77 := nok_next P_NOK (s := (a0).toNatClampNeg) (by ((try simp only [vp_in_iff, Int32.lt_iff_toInt_lt, Int32.le_iff_toInt_le, ← Int32.toInt_inj, Int32.reduceToInt, n_1, n_2, n_8, Int32.toNatClampNeg, Int64.lt_iff_toInt_lt, Int64.le_iff_toInt_le, ← Int64.toInt_inj, Int64.reduceToInt, Int32.toInt_toInt64, lg_cmp_ge, lg_cmp_le, lg_cmp_gt, lg_cmp_lt, lg_cmp_eq, Bool.false_eq_true, Bool.true_eq_false, reduceCtorEq, false_iff, true_iff, iff_true, iff_false, and_true, true_and, and_false, false_and, reduceIte, ite_true, ite_false, eq_self] at *)) <;> omega) (by ((try simp only [vp_in_iff, Int32.lt_iff_toInt_lt, Int32.le_iff_toInt_le, ← Int32.toInt_inj, Int32.reduceToInt, n_1, n_2, n_8, Int32.toNatClampNeg, Int64.lt_iff_toInt_lt, Int64.le_iff_toInt_le, ← Int64.toInt_inj, Int64.reduceToInt, Int32.toInt_toInt64, lg_cmp_ge, lg_cmp_le, lg_cmp_gt, lg_cmp_lt, lg_cmp_eq, Bool.false_eq_true, Bool.true_eq_false, reduceCtorEq, false_iff, true_iff, iff_true, iff_false, and_true, true_and, and_false, false_and, reduceIte, ite_true, ite_false, eq_self] at *)) <;> omega) (by ((try simp only [vp_in_iff, Int32.lt_iff_toInt_lt, Int32.le_iff_toInt_le, ← Int32.toInt_inj, Int32.reduceToInt, n_1, n_2, n_8, Int32.toNatClampNeg, Int64.lt_iff_toInt_lt, Int64.le_iff_toInt_le, ← Int64.toInt_inj, Int64.reduceToInt, Int32.toInt_toInt64, lg_cmp_ge, lg_cmp_le, lg_cmp_gt, lg_cmp_lt, lg_cmp_eq, Bool.false_eq_true, Bool.true_eq_false, reduceCtorEq, false_iff, true_iff, iff_true, iff_false, and_true, true_and, and_false, false_and, reduceIte, ite_true, ite_false, eq_self] at *)) <;> omega) hv77
                                clear hv77
                                refine wa_istoreD (lv' := [(4, .int v77), (3, .int (bI true)), (0, .ref 84)]) (by decide) rfl ?_
                                refine wa_goto o_X12_isNode_269 (by decide) ?_
                                refine wa_pick [2, 1, 0] rfl ?_
                                exact ih70 _ (by ((try simp only [vp_in_iff, Int32.lt_iff_toInt_lt, Int32.le_iff_toInt_le, ← Int32.toInt_inj, Int32.reduceToInt, n_1, n_2, n_8, Int32.toNatClampNeg, Int64.lt_iff_toInt_lt, Int64.le_iff_toInt_le, ← Int64.toInt_inj, Int64.reduceToInt, Int32.toInt_toInt64, lg_cmp_ge, lg_cmp_le, lg_cmp_gt, lg_cmp_lt, lg_cmp_eq, Bool.false_eq_true, Bool.true_eq_false, reduceCtorEq, false_iff, true_iff, iff_true, iff_false, and_true, true_and, and_false, false_and, reduceIte, ite_true, ite_false, eq_self] at *)) <;> omega) _ _ ⟨(by ((try simp only [vp_in_iff, Int32.lt_iff_toInt_lt, Int32.le_iff_toInt_le, ← Int32.toInt_inj, Int32.reduceToInt, n_1, n_2, n_8, Int32.toNatClampNeg, Int64.lt_iff_toInt_lt, Int64.le_iff_toInt_le, ← Int64.toInt_inj, Int64.reduceToInt, Int32.toInt_toInt64, lg_cmp_ge, lg_cmp_le, lg_cmp_gt, lg_cmp_lt, lg_cmp_eq, Bool.false_eq_true, Bool.true_eq_false, reduceCtorEq, false_iff, true_iff, iff_true, iff_false, and_true, true_and, and_false, false_and, reduceIte, ite_true, ite_false, eq_self] at *)) <;> omega), trivial⟩ rfl
                      exact hi71 _ _ _ ⟨(by ((try simp only [vp_in_iff, Int32.lt_iff_toInt_lt, Int32.le_iff_toInt_le, ← Int32.toInt_inj, Int32.reduceToInt, n_1, n_2, n_8, Int32.toNatClampNeg, Int64.lt_iff_toInt_lt, Int64.le_iff_toInt_le, ← Int64.toInt_inj, Int64.reduceToInt, Int32.toInt_toInt64, lg_cmp_ge, lg_cmp_le, lg_cmp_gt, lg_cmp_lt, lg_cmp_eq, Bool.false_eq_true, Bool.true_eq_false, reduceCtorEq, false_iff, true_iff, iff_true, iff_false, and_true, true_and, and_false, false_and, reduceIte, ite_true, ite_false, eq_self] at *)) <;> omega), trivial⟩ rfl
                    ·
                      by_cases h78 : q2 = 13
                      · refine wa_tIn (by rw [h78]; decide) (by rw [h78]; decide) (by rw [h78] <;> rfl) o_X12_isNode_259 (by decide) ?_
                        refine wa_iconst (v := 0) (by decide) ?_
                        refine wa_istore_nD (lv' := [(3, .int (bI false)), (0, .ref 84), (1, .int a0), (2, .int a1)]) (i := 3) rfl (by decide) rfl ?_
                        refine wa_aload_n (i := 0) rfl rfl ?_
                        refine wa_getr ck_12 fl_12_111 ly_84 rf_84_42 ?_
                        refine wa_iload_n (i := 2) rfl rfl ?_
                        refine wa_iald ly_197 (by ((try simp only [vp_in_iff, Int32.lt_iff_toInt_lt, Int32.le_iff_toInt_le, ← Int32.toInt_inj, Int32.reduceToInt, n_1, n_2, n_8, Int32.toNatClampNeg, Int64.lt_iff_toInt_lt, Int64.le_iff_toInt_le, ← Int64.toInt_inj, Int64.reduceToInt, Int32.toInt_toInt64, lg_cmp_ge, lg_cmp_le, lg_cmp_gt, lg_cmp_lt, lg_cmp_eq, Bool.false_eq_true, Bool.true_eq_false, reduceCtorEq, false_iff, true_iff, iff_true, iff_false, and_true, true_and, and_false, false_and, reduceIte, ite_true, ite_false, eq_self] at *)) <;> omega) ?_
                        refine wa_top (fun v79 hv79 => ?_)
                        have qv79 := hv79
                        clear hv79
                        refine wa_istoreD (lv' := [(4, .int v79), (3, .int (bI false)), (0, .ref 84), (1, .int a0), (2, .int a1)]) (by decide) rfl ?_
                        refine wa_pick [2, 1, 0] rfl ?_
                        have hi81 : ∀ (n9_269 : Nat) (l3 : Bool) (l4 : Int32), ((l4.toInt = -1 ∨ (250 * a0.toInt ≤ l4.toInt ∧ l4.toInt < 250 * a0.toInt + (gi σ 194 (a0).toNatClampNeg).toInt)) ∧ (True)) → (6501 - (l4.toInt + 6502) % 6502).toNat = n9_269 → WA G M_X12_isNode (ZM G M_X12_isNode d (fun r σ' => ∃ x : Bool, r = some (.int (bI x)) ∧ σ = σ' ∧ True)) B_X12_isNode_269 [(0, .ref 84), (3, .int (bI l3)), (4, .int l4)] [] σ := by
                          intro n9_269
                          induction n9_269 using Nat.strongRecOn with
                          | _ n9_269 ih80 =>
                            intro l3 l4  i9 m9_269
                            obtain ⟨jhi81_0, -⟩ := i9
                            have ul4 := Int32.toInt_lt l4
                            have wl4 := Int32.le_toInt l4
                            refine wa_iload rfl ?_
                            refine wa_iconst (v := (-1)) (by decide) ?_
                            refine wa_icmp_eq o_X12_isNode_307 (by decide) (fun h82 => ?_) (fun h82 => ?_)
                            · refine wa_iload_n (i := 3) rfl rfl ?_
                              refine wa_zreturn l3 (rfl) rfl rfl ?_
                              exact ⟨_, rfl, rfl, trivial⟩
                            · refine wa_iload_n (i := 3) rfl rfl ?_
                              refine wa_if_ne o_X12_isNode_289 (by decide) (fun h83 => ?_) (fun h83 => ?_)
                              · replace h83 := bI_t (b := l3) (rfl) h83
                                refine wa_iconst (v := 1) (by decide) ?_
                                refine wa_goto o_X12_isNode_294 (by decide) ?_
                                refine wa_istore_nD (lv' := [(3, .int (bI true)), (0, .ref 84), (4, .int l4)]) (i := 3) rfl (by decide) rfl ?_
                                refine wa_aload_n (i := 0) rfl rfl ?_
                                refine wa_getr ck_12 fl_12_117 ly_84 rf_84_44 ?_
                                refine wa_iload rfl ?_
                                refine wa_iald ly_195 (by ((try simp only [vp_in_iff, Int32.lt_iff_toInt_lt, Int32.le_iff_toInt_le, ← Int32.toInt_inj, Int32.reduceToInt, n_1, n_2, n_8, Int32.toNatClampNeg, Int64.lt_iff_toInt_lt, Int64.le_iff_toInt_le, ← Int64.toInt_inj, Int64.reduceToInt, Int32.toInt_toInt64, lg_cmp_ge, lg_cmp_le, lg_cmp_gt, lg_cmp_lt, lg_cmp_eq, Bool.false_eq_true, Bool.true_eq_false, reduceCtorEq, false_iff, true_iff, iff_true, iff_false, and_true, true_and, and_false, false_and, reduceIte, ite_true, ite_false, eq_self] at *)) <;> omega) ?_
                                refine wa_top (fun v84 hv84 => ?_)
                                have rv84 := nok_next P_NOK (s := (a0).toNatClampNeg) (by ((try simp only [vp_in_iff, Int32.lt_iff_toInt_lt, Int32.le_iff_toInt_le, ← Int32.toInt_inj, Int32.reduceToInt, n_1, n_2, n_8, Int32.toNatClampNeg, Int64.lt_iff_toInt_lt, Int64.le_iff_toInt_le, ← Int64.toInt_inj, Int64.reduceToInt, Int32.toInt_toInt64, lg_cmp_ge, lg_cmp_le, lg_cmp_gt, lg_cmp_lt, lg_cmp_eq, Bool.false_eq_true, Bool.true_eq_false, reduceCtorEq, false_iff, true_iff, iff_true, iff_false, and_true, true_and, and_false, false_and, reduceIte, ite_true, ite_false, eq_self] at *)) <;> omega) (by ((try simp only [vp_in_iff, Int32.lt_iff_toInt_lt, Int32.le_iff_toInt_le, ← Int32.toInt_inj, Int32.reduceToInt, n_1, n_2, n_8, Int32.toNatClampNeg, Int64.lt_iff_toInt_lt, Int64.le_iff_toInt_le, ← Int64.toInt_inj, Int64.reduceToInt, Int32.toInt_toInt64, lg_cmp_ge, lg_cmp_le, lg_cmp_gt, lg_cmp_lt, lg_cmp_eq, Bool.false_eq_true, Bool.true_eq_false, reduceCtorEq, false_iff, true_iff, iff_true, iff_false, and_true, true_and, and_false, false_and, reduceIte, ite_true, ite_false, eq_self] at *)) <;> omega) (by ((try simp only [vp_in_iff, Int32.lt_iff_toInt_lt, Int32.le_iff_toInt_le, ← Int32.toInt_inj, Int32.reduceToInt, n_1, n_2, n_8, Int32.toNatClampNeg, Int64.lt_iff_toInt_lt, Int64.le_iff_toInt_le, ← Int64.toInt_inj, Int64.reduceToInt, Int32.toInt_toInt64, lg_cmp_ge, lg_cmp_le, lg_cmp_gt, lg_cmp_lt, lg_cmp_eq, Bool.false_eq_true, Bool.true_eq_false, reduceCtorEq, false_iff, true_iff, iff_true, iff_false, and_true, true_and, and_false, false_and, reduceIte, ite_true, ite_false, eq_self] at *)) <;> omega) hv84
                                clear hv84
                                refine wa_istoreD (lv' := [(4, .int v84), (3, .int (bI true)), (0, .ref 84)]) (by decide) rfl ?_
                                refine wa_goto o_X12_isNode_269 (by decide) ?_
                                refine wa_pick [2, 1, 0] rfl ?_
                                exact ih80 _ (by ((try simp only [vp_in_iff, Int32.lt_iff_toInt_lt, Int32.le_iff_toInt_le, ← Int32.toInt_inj, Int32.reduceToInt, n_1, n_2, n_8, Int32.toNatClampNeg, Int64.lt_iff_toInt_lt, Int64.le_iff_toInt_le, ← Int64.toInt_inj, Int64.reduceToInt, Int32.toInt_toInt64, lg_cmp_ge, lg_cmp_le, lg_cmp_gt, lg_cmp_lt, lg_cmp_eq, Bool.false_eq_true, Bool.true_eq_false, reduceCtorEq, false_iff, true_iff, iff_true, iff_false, and_true, true_and, and_false, false_and, reduceIte, ite_true, ite_false, eq_self] at *)) <;> omega) _ _ ⟨(by ((try simp only [vp_in_iff, Int32.lt_iff_toInt_lt, Int32.le_iff_toInt_le, ← Int32.toInt_inj, Int32.reduceToInt, n_1, n_2, n_8, Int32.toNatClampNeg, Int64.lt_iff_toInt_lt, Int64.le_iff_toInt_le, ← Int64.toInt_inj, Int64.reduceToInt, Int32.toInt_toInt64, lg_cmp_ge, lg_cmp_le, lg_cmp_gt, lg_cmp_lt, lg_cmp_eq, Bool.false_eq_true, Bool.true_eq_false, reduceCtorEq, false_iff, true_iff, iff_true, iff_false, and_true, true_and, and_false, false_and, reduceIte, ite_true, ite_false, eq_self] at *)) <;> omega), trivial⟩ rfl
                              · replace h83 := bI_f (b := l3) (rfl) h83
                                refine wa_aload_n (i := 0) rfl rfl ?_
                                refine wa_getr ck_12 fl_12_313 ly_84 rf_84_124 ?_
                                refine wa_iload rfl ?_
                                refine wa_zald ly_130 (by ((try simp only [vp_in_iff, Int32.lt_iff_toInt_lt, Int32.le_iff_toInt_le, ← Int32.toInt_inj, Int32.reduceToInt, n_1, n_2, n_8, Int32.toNatClampNeg, Int64.lt_iff_toInt_lt, Int64.le_iff_toInt_le, ← Int64.toInt_inj, Int64.reduceToInt, Int32.toInt_toInt64, lg_cmp_ge, lg_cmp_le, lg_cmp_gt, lg_cmp_lt, lg_cmp_eq, Bool.false_eq_true, Bool.true_eq_false, reduceCtorEq, false_iff, true_iff, iff_true, iff_false, and_true, true_and, and_false, false_and, reduceIte, ite_true, ite_false, eq_self] at *)) <;> omega) ?_
                                refine wa_if_eq o_X12_isNode_293 (by decide) (fun h85 => ?_) (fun h85 => ?_)
                                · replace h85 := bI_f (b := (gb σ 130 (l4).toNatClampNeg)) (rfl) h85
                                  refine wa_iconst (v := 0) (by decide) ?_
                                  refine wa_istore_nD (lv' := [(3, .int (bI false)), (0, .ref 84), (4, .int l4)]) (i := 3) rfl (by decide) rfl ?_
                                  refine wa_aload_n (i := 0) rfl rfl ?_
                                  refine wa_getr ck_12 fl_12_117 ly_84 rf_84_44 ?_
                                  refine wa_iload rfl ?_
                                  refine wa_iald ly_195 (by ((try simp only [vp_in_iff, Int32.lt_iff_toInt_lt, Int32.le_iff_toInt_le, ← Int32.toInt_inj, Int32.reduceToInt, n_1, n_2, n_8, Int32.toNatClampNeg, Int64.lt_iff_toInt_lt, Int64.le_iff_toInt_le, ← Int64.toInt_inj, Int64.reduceToInt, Int32.toInt_toInt64, lg_cmp_ge, lg_cmp_le, lg_cmp_gt, lg_cmp_lt, lg_cmp_eq, Bool.false_eq_true, Bool.true_eq_false, reduceCtorEq, false_iff, true_iff, iff_true, iff_false, and_true, true_and, and_false, false_and, reduceIte, ite_true, ite_false, eq_self] at *)) <;> omega) ?_
                                  refine wa_top (fun v86 hv86 => ?_)
                                  have rv86 := nok_next P_NOK (s := (a0).toNatClampNeg) (by ((try simp only [vp_in_iff, Int32.lt_iff_toInt_lt, Int32.le_iff_toInt_le, ← Int32.toInt_inj, Int32.reduceToInt, n_1, n_2, n_8, Int32.toNatClampNeg, Int64.lt_iff_toInt_lt, Int64.le_iff_toInt_le, ← Int64.toInt_inj, Int64.reduceToInt, Int32.toInt_toInt64, lg_cmp_ge, lg_cmp_le, lg_cmp_gt, lg_cmp_lt, lg_cmp_eq, Bool.false_eq_true, Bool.true_eq_false, reduceCtorEq, false_iff, true_iff, iff_true, iff_false, and_true, true_and, and_false, false_and, reduceIte, ite_true, ite_false, eq_self] at *)) <;> omega) (by ((try simp only [vp_in_iff, Int32.lt_iff_toInt_lt, Int32.le_iff_toInt_le, ← Int32.toInt_inj, Int32.reduceToInt, n_1, n_2, n_8, Int32.toNatClampNeg, Int64.lt_iff_toInt_lt, Int64.le_iff_toInt_le, ← Int64.toInt_inj, Int64.reduceToInt, Int32.toInt_toInt64, lg_cmp_ge, lg_cmp_le, lg_cmp_gt, lg_cmp_lt, lg_cmp_eq, Bool.false_eq_true, Bool.true_eq_false, reduceCtorEq, false_iff, true_iff, iff_true, iff_false, and_true, true_and, and_false, false_and, reduceIte, ite_true, ite_false, eq_self] at *)) <;> omega) (by ((try simp only [vp_in_iff, Int32.lt_iff_toInt_lt, Int32.le_iff_toInt_le, ← Int32.toInt_inj, Int32.reduceToInt, n_1, n_2, n_8, Int32.toNatClampNeg, Int64.lt_iff_toInt_lt, Int64.le_iff_toInt_le, ← Int64.toInt_inj, Int64.reduceToInt, Int32.toInt_toInt64, lg_cmp_ge, lg_cmp_le, lg_cmp_gt, lg_cmp_lt, lg_cmp_eq, Bool.false_eq_true, Bool.true_eq_false, reduceCtorEq, false_iff, true_iff, iff_true, iff_false, and_true, true_and, and_false, false_and, reduceIte, ite_true, ite_false, eq_self] at *)) <;> omega) hv86
                                  clear hv86
                                  refine wa_istoreD (lv' := [(4, .int v86), (3, .int (bI false)), (0, .ref 84)]) (by decide) rfl ?_
                                  refine wa_goto o_X12_isNode_269 (by decide) ?_
                                  refine wa_pick [2, 1, 0] rfl ?_
                                  exact ih80 _ (by ((try simp only [vp_in_iff, Int32.lt_iff_toInt_lt, Int32.le_iff_toInt_le, ← Int32.toInt_inj, Int32.reduceToInt, n_1, n_2, n_8, Int32.toNatClampNeg, Int64.lt_iff_toInt_lt, Int64.le_iff_toInt_le, ← Int64.toInt_inj, Int64.reduceToInt, Int32.toInt_toInt64, lg_cmp_ge, lg_cmp_le, lg_cmp_gt, lg_cmp_lt, lg_cmp_eq, Bool.false_eq_true, Bool.true_eq_false, reduceCtorEq, false_iff, true_iff, iff_true, iff_false, and_true, true_and, and_false, false_and, reduceIte, ite_true, ite_false, eq_self] at *)) <;> omega) _ _ ⟨(by ((try simp only [vp_in_iff, Int32.lt_iff_toInt_lt, Int32.le_iff_toInt_le, ← Int32.toInt_inj, Int32.reduceToInt, n_1, n_2, n_8, Int32.toNatClampNeg, Int64.lt_iff_toInt_lt, Int64.le_iff_toInt_le, ← Int64.toInt_inj, Int64.reduceToInt, Int32.toInt_toInt64, lg_cmp_ge, lg_cmp_le, lg_cmp_gt, lg_cmp_lt, lg_cmp_eq, Bool.false_eq_true, Bool.true_eq_false, reduceCtorEq, false_iff, true_iff, iff_true, iff_false, and_true, true_and, and_false, false_and, reduceIte, ite_true, ite_false, eq_self] at *)) <;> omega), trivial⟩ rfl
                                · replace h85 := bI_t (b := (gb σ 130 (l4).toNatClampNeg)) (rfl) h85
                                  refine wa_iconst (v := 1) (by decide) ?_
                                  refine wa_goto o_X12_isNode_294 (by decide) ?_
                                  refine wa_istore_nD (lv' := [(3, .int (bI true)), (0, .ref 84), (4, .int l4)]) (i := 3) rfl (by decide) rfl ?_
                                  refine wa_aload_n (i := 0) rfl rfl ?_
                                  refine wa_getr ck_12 fl_12_117 ly_84 rf_84_44 ?_
                                  refine wa_iload rfl ?_
                                  refine wa_iald ly_195 (by ((try simp only [vp_in_iff, Int32.lt_iff_toInt_lt, Int32.le_iff_toInt_le, ← Int32.toInt_inj, Int32.reduceToInt, n_1, n_2, n_8, Int32.toNatClampNeg, Int64.lt_iff_toInt_lt, Int64.le_iff_toInt_le, ← Int64.toInt_inj, Int64.reduceToInt, Int32.toInt_toInt64, lg_cmp_ge, lg_cmp_le, lg_cmp_gt, lg_cmp_lt, lg_cmp_eq, Bool.false_eq_true, Bool.true_eq_false, reduceCtorEq, false_iff, true_iff, iff_true, iff_false, and_true, true_and, and_false, false_and, reduceIte, ite_true, ite_false, eq_self] at *)) <;> omega) ?_
                                  refine wa_top (fun v87 hv87 => ?_)
                                  have rv87 := nok_next P_NOK (s := (a0).toNatClampNeg) (by ((try simp only [vp_in_iff, Int32.lt_iff_toInt_lt, Int32.le_iff_toInt_le, ← Int32.toInt_inj, Int32.reduceToInt, n_1, n_2, n_8, Int32.toNatClampNeg, Int64.lt_iff_toInt_lt, Int64.le_iff_toInt_le, ← Int64.toInt_inj, Int64.reduceToInt, Int32.toInt_toInt64, lg_cmp_ge, lg_cmp_le, lg_cmp_gt, lg_cmp_lt, lg_cmp_eq, Bool.false_eq_true, Bool.true_eq_false, reduceCtorEq, false_iff, true_iff, iff_true, iff_false, and_true, true_and, and_false, false_and, reduceIte, ite_true, ite_false, eq_self] at *)) <;> omega) (by ((try simp only [vp_in_iff, Int32.lt_iff_toInt_lt, Int32.le_iff_toInt_le, ← Int32.toInt_inj, Int32.reduceToInt, n_1, n_2, n_8, Int32.toNatClampNeg, Int64.lt_iff_toInt_lt, Int64.le_iff_toInt_le, ← Int64.toInt_inj, Int64.reduceToInt, Int32.toInt_toInt64, lg_cmp_ge, lg_cmp_le, lg_cmp_gt, lg_cmp_lt, lg_cmp_eq, Bool.false_eq_true, Bool.true_eq_false, reduceCtorEq, false_iff, true_iff, iff_true, iff_false, and_true, true_and, and_false, false_and, reduceIte, ite_true, ite_false, eq_self] at *)) <;> omega) (by ((try simp only [vp_in_iff, Int32.lt_iff_toInt_lt, Int32.le_iff_toInt_le, ← Int32.toInt_inj, Int32.reduceToInt, n_1, n_2, n_8, Int32.toNatClampNeg, Int64.lt_iff_toInt_lt, Int64.le_iff_toInt_le, ← Int64.toInt_inj, Int64.reduceToInt, Int32.toInt_toInt64, lg_cmp_ge, lg_cmp_le, lg_cmp_gt, lg_cmp_lt, lg_cmp_eq, Bool.false_eq_true, Bool.true_eq_false, reduceCtorEq, false_iff, true_iff, iff_true, iff_false, and_true, true_and, and_false, false_and, reduceIte, ite_true, ite_false, eq_self] at *)) <;> omega) hv87
                                  clear hv87
                                  refine wa_istoreD (lv' := [(4, .int v87), (3, .int (bI true)), (0, .ref 84)]) (by decide) rfl ?_
                                  refine wa_goto o_X12_isNode_269 (by decide) ?_
                                  refine wa_pick [2, 1, 0] rfl ?_
                                  exact ih80 _ (by ((try simp only [vp_in_iff, Int32.lt_iff_toInt_lt, Int32.le_iff_toInt_le, ← Int32.toInt_inj, Int32.reduceToInt, n_1, n_2, n_8, Int32.toNatClampNeg, Int64.lt_iff_toInt_lt, Int64.le_iff_toInt_le, ← Int64.toInt_inj, Int64.reduceToInt, Int32.toInt_toInt64, lg_cmp_ge, lg_cmp_le, lg_cmp_gt, lg_cmp_lt, lg_cmp_eq, Bool.false_eq_true, Bool.true_eq_false, reduceCtorEq, false_iff, true_iff, iff_true, iff_false, and_true, true_and, and_false, false_and, reduceIte, ite_true, ite_false, eq_self] at *)) <;> omega) _ _ ⟨(by ((try simp only [vp_in_iff, Int32.lt_iff_toInt_lt, Int32.le_iff_toInt_le, ← Int32.toInt_inj, Int32.reduceToInt, n_1, n_2, n_8, Int32.toNatClampNeg, Int64.lt_iff_toInt_lt, Int64.le_iff_toInt_le, ← Int64.toInt_inj, Int64.reduceToInt, Int32.toInt_toInt64, lg_cmp_ge, lg_cmp_le, lg_cmp_gt, lg_cmp_lt, lg_cmp_eq, Bool.false_eq_true, Bool.true_eq_false, reduceCtorEq, false_iff, true_iff, iff_true, iff_false, and_true, true_and, and_false, false_and, reduceIte, ite_true, ite_false, eq_self] at *)) <;> omega), trivial⟩ rfl
                        exact hi81 _ _ _ ⟨(by ((try simp only [vp_in_iff, Int32.lt_iff_toInt_lt, Int32.le_iff_toInt_le, ← Int32.toInt_inj, Int32.reduceToInt, n_1, n_2, n_8, Int32.toNatClampNeg, Int64.lt_iff_toInt_lt, Int64.le_iff_toInt_le, ← Int64.toInt_inj, Int64.reduceToInt, Int32.toInt_toInt64, lg_cmp_ge, lg_cmp_le, lg_cmp_gt, lg_cmp_lt, lg_cmp_eq, Bool.false_eq_true, Bool.true_eq_false, reduceCtorEq, false_iff, true_iff, iff_true, iff_false, and_true, true_and, and_false, false_and, reduceIte, ite_true, ite_false, eq_self] at *)) <;> omega), trivial⟩ rfl
                      ·
                        by_cases h88 : q2 = 14
                        · refine wa_tIn (by rw [h88]; decide) (by rw [h88]; decide) (by rw [h88] <;> rfl) o_X12_isNode_259 (by decide) ?_
                          refine wa_iconst (v := 0) (by decide) ?_
                          refine wa_istore_nD (lv' := [(3, .int (bI false)), (0, .ref 84), (1, .int a0), (2, .int a1)]) (i := 3) rfl (by decide) rfl ?_
                          refine wa_aload_n (i := 0) rfl rfl ?_
                          refine wa_getr ck_12 fl_12_111 ly_84 rf_84_42 ?_
                          refine wa_iload_n (i := 2) rfl rfl ?_
                          refine wa_iald ly_197 (by ((try simp only [vp_in_iff, Int32.lt_iff_toInt_lt, Int32.le_iff_toInt_le, ← Int32.toInt_inj, Int32.reduceToInt, n_1, n_2, n_8, Int32.toNatClampNeg, Int64.lt_iff_toInt_lt, Int64.le_iff_toInt_le, ← Int64.toInt_inj, Int64.reduceToInt, Int32.toInt_toInt64, lg_cmp_ge, lg_cmp_le, lg_cmp_gt, lg_cmp_lt, lg_cmp_eq, Bool.false_eq_true, Bool.true_eq_false, reduceCtorEq, false_iff, true_iff, iff_true, iff_false, and_true, true_and, and_false, false_and, reduceIte, ite_true, ite_false, eq_self] at *)) <;> omega) ?_
                          refine wa_top (fun v89 hv89 => ?_)
                          have qv89 := hv89
                          clear hv89
                          refine wa_istoreD (lv' := [(4, .int v89), (3, .int (bI false)), (0, .ref 84), (1, .int a0), (2, .int a1)]) (by decide) rfl ?_
                          refine wa_pick [2, 1, 0] rfl ?_
                          have hi91 : ∀ (n9_269 : Nat) (l3 : Bool) (l4 : Int32), ((l4.toInt = -1 ∨ (250 * a0.toInt ≤ l4.toInt ∧ l4.toInt < 250 * a0.toInt + (gi σ 194 (a0).toNatClampNeg).toInt)) ∧ (True)) → (6501 - (l4.toInt + 6502) % 6502).toNat = n9_269 → WA G M_X12_isNode (ZM G M_X12_isNode d (fun r σ' => ∃ x : Bool, r = some (.int (bI x)) ∧ σ = σ' ∧ True)) B_X12_isNode_269 [(0, .ref 84), (3, .int (bI l3)), (4, .int l4)] [] σ := by
                            intro n9_269
                            induction n9_269 using Nat.strongRecOn with
                            | _ n9_269 ih90 =>
                              intro l3 l4  i9 m9_269
                              obtain ⟨jhi91_0, -⟩ := i9
                              have ul4 := Int32.toInt_lt l4
                              have wl4 := Int32.le_toInt l4
                              refine wa_iload rfl ?_
                              refine wa_iconst (v := (-1)) (by decide) ?_
                              refine wa_icmp_eq o_X12_isNode_307 (by decide) (fun h92 => ?_) (fun h92 => ?_)
                              · refine wa_iload_n (i := 3) rfl rfl ?_
                                refine wa_zreturn l3 (rfl) rfl rfl ?_
                                exact ⟨_, rfl, rfl, trivial⟩
                              · refine wa_iload_n (i := 3) rfl rfl ?_
                                refine wa_if_ne o_X12_isNode_289 (by decide) (fun h93 => ?_) (fun h93 => ?_)
                                · replace h93 := bI_t (b := l3) (rfl) h93
                                  refine wa_iconst (v := 1) (by decide) ?_
                                  refine wa_goto o_X12_isNode_294 (by decide) ?_
                                  refine wa_istore_nD (lv' := [(3, .int (bI true)), (0, .ref 84), (4, .int l4)]) (i := 3) rfl (by decide) rfl ?_
                                  refine wa_aload_n (i := 0) rfl rfl ?_
                                  refine wa_getr ck_12 fl_12_117 ly_84 rf_84_44 ?_
                                  refine wa_iload rfl ?_
                                  refine wa_iald ly_195 (by ((try simp only [vp_in_iff, Int32.lt_iff_toInt_lt, Int32.le_iff_toInt_le, ← Int32.toInt_inj, Int32.reduceToInt, n_1, n_2, n_8, Int32.toNatClampNeg, Int64.lt_iff_toInt_lt, Int64.le_iff_toInt_le, ← Int64.toInt_inj, Int64.reduceToInt, Int32.toInt_toInt64, lg_cmp_ge, lg_cmp_le, lg_cmp_gt, lg_cmp_lt, lg_cmp_eq, Bool.false_eq_true, Bool.true_eq_false, reduceCtorEq, false_iff, true_iff, iff_true, iff_false, and_true, true_and, and_false, false_and, reduceIte, ite_true, ite_false, eq_self] at *)) <;> omega) ?_
                                  refine wa_top (fun v94 hv94 => ?_)
                                  have rv94 := nok_next P_NOK (s := (a0).toNatClampNeg) (by ((try simp only [vp_in_iff, Int32.lt_iff_toInt_lt, Int32.le_iff_toInt_le, ← Int32.toInt_inj, Int32.reduceToInt, n_1, n_2, n_8, Int32.toNatClampNeg, Int64.lt_iff_toInt_lt, Int64.le_iff_toInt_le, ← Int64.toInt_inj, Int64.reduceToInt, Int32.toInt_toInt64, lg_cmp_ge, lg_cmp_le, lg_cmp_gt, lg_cmp_lt, lg_cmp_eq, Bool.false_eq_true, Bool.true_eq_false, reduceCtorEq, false_iff, true_iff, iff_true, iff_false, and_true, true_and, and_false, false_and, reduceIte, ite_true, ite_false, eq_self] at *)) <;> omega) (by ((try simp only [vp_in_iff, Int32.lt_iff_toInt_lt, Int32.le_iff_toInt_le, ← Int32.toInt_inj, Int32.reduceToInt, n_1, n_2, n_8, Int32.toNatClampNeg, Int64.lt_iff_toInt_lt, Int64.le_iff_toInt_le, ← Int64.toInt_inj, Int64.reduceToInt, Int32.toInt_toInt64, lg_cmp_ge, lg_cmp_le, lg_cmp_gt, lg_cmp_lt, lg_cmp_eq, Bool.false_eq_true, Bool.true_eq_false, reduceCtorEq, false_iff, true_iff, iff_true, iff_false, and_true, true_and, and_false, false_and, reduceIte, ite_true, ite_false, eq_self] at *)) <;> omega) (by ((try simp only [vp_in_iff, Int32.lt_iff_toInt_lt, Int32.le_iff_toInt_le, ← Int32.toInt_inj, Int32.reduceToInt, n_1, n_2, n_8, Int32.toNatClampNeg, Int64.lt_iff_toInt_lt, Int64.le_iff_toInt_le, ← Int64.toInt_inj, Int64.reduceToInt, Int32.toInt_toInt64, lg_cmp_ge, lg_cmp_le, lg_cmp_gt, lg_cmp_lt, lg_cmp_eq, Bool.false_eq_true, Bool.true_eq_false, reduceCtorEq, false_iff, true_iff, iff_true, iff_false, and_true, true_and, and_false, false_and, reduceIte, ite_true, ite_false, eq_self] at *)) <;> omega) hv94
                                  clear hv94
                                  refine wa_istoreD (lv' := [(4, .int v94), (3, .int (bI true)), (0, .ref 84)]) (by decide) rfl ?_
                                  refine wa_goto o_X12_isNode_269 (by decide) ?_
                                  refine wa_pick [2, 1, 0] rfl ?_
                                  exact ih90 _ (by ((try simp only [vp_in_iff, Int32.lt_iff_toInt_lt, Int32.le_iff_toInt_le, ← Int32.toInt_inj, Int32.reduceToInt, n_1, n_2, n_8, Int32.toNatClampNeg, Int64.lt_iff_toInt_lt, Int64.le_iff_toInt_le, ← Int64.toInt_inj, Int64.reduceToInt, Int32.toInt_toInt64, lg_cmp_ge, lg_cmp_le, lg_cmp_gt, lg_cmp_lt, lg_cmp_eq, Bool.false_eq_true, Bool.true_eq_false, reduceCtorEq, false_iff, true_iff, iff_true, iff_false, and_true, true_and, and_false, false_and, reduceIte, ite_true, ite_false, eq_self] at *)) <;> omega) _ _ ⟨(by ((try simp only [vp_in_iff, Int32.lt_iff_toInt_lt, Int32.le_iff_toInt_le, ← Int32.toInt_inj, Int32.reduceToInt, n_1, n_2, n_8, Int32.toNatClampNeg, Int64.lt_iff_toInt_lt, Int64.le_iff_toInt_le, ← Int64.toInt_inj, Int64.reduceToInt, Int32.toInt_toInt64, lg_cmp_ge, lg_cmp_le, lg_cmp_gt, lg_cmp_lt, lg_cmp_eq, Bool.false_eq_true, Bool.true_eq_false, reduceCtorEq, false_iff, true_iff, iff_true, iff_false, and_true, true_and, and_false, false_and, reduceIte, ite_true, ite_false, eq_self] at *)) <;> omega), trivial⟩ rfl
                                · replace h93 := bI_f (b := l3) (rfl) h93
                                  refine wa_aload_n (i := 0) rfl rfl ?_
                                  refine wa_getr ck_12 fl_12_313 ly_84 rf_84_124 ?_
                                  refine wa_iload rfl ?_
                                  refine wa_zald ly_130 (by ((try simp only [vp_in_iff, Int32.lt_iff_toInt_lt, Int32.le_iff_toInt_le, ← Int32.toInt_inj, Int32.reduceToInt, n_1, n_2, n_8, Int32.toNatClampNeg, Int64.lt_iff_toInt_lt, Int64.le_iff_toInt_le, ← Int64.toInt_inj, Int64.reduceToInt, Int32.toInt_toInt64, lg_cmp_ge, lg_cmp_le, lg_cmp_gt, lg_cmp_lt, lg_cmp_eq, Bool.false_eq_true, Bool.true_eq_false, reduceCtorEq, false_iff, true_iff, iff_true, iff_false, and_true, true_and, and_false, false_and, reduceIte, ite_true, ite_false, eq_self] at *)) <;> omega) ?_
                                  refine wa_if_eq o_X12_isNode_293 (by decide) (fun h95 => ?_) (fun h95 => ?_)
                                  · replace h95 := bI_f (b := (gb σ 130 (l4).toNatClampNeg)) (rfl) h95
                                    refine wa_iconst (v := 0) (by decide) ?_
                                    refine wa_istore_nD (lv' := [(3, .int (bI false)), (0, .ref 84), (4, .int l4)]) (i := 3) rfl (by decide) rfl ?_
                                    refine wa_aload_n (i := 0) rfl rfl ?_
                                    refine wa_getr ck_12 fl_12_117 ly_84 rf_84_44 ?_
                                    refine wa_iload rfl ?_
                                    refine wa_iald ly_195 (by ((try simp only [vp_in_iff, Int32.lt_iff_toInt_lt, Int32.le_iff_toInt_le, ← Int32.toInt_inj, Int32.reduceToInt, n_1, n_2, n_8, Int32.toNatClampNeg, Int64.lt_iff_toInt_lt, Int64.le_iff_toInt_le, ← Int64.toInt_inj, Int64.reduceToInt, Int32.toInt_toInt64, lg_cmp_ge, lg_cmp_le, lg_cmp_gt, lg_cmp_lt, lg_cmp_eq, Bool.false_eq_true, Bool.true_eq_false, reduceCtorEq, false_iff, true_iff, iff_true, iff_false, and_true, true_and, and_false, false_and, reduceIte, ite_true, ite_false, eq_self] at *)) <;> omega) ?_
                                    refine wa_top (fun v96 hv96 => ?_)
                                    have rv96 := nok_next P_NOK (s := (a0).toNatClampNeg) (by ((try simp only [vp_in_iff, Int32.lt_iff_toInt_lt, Int32.le_iff_toInt_le, ← Int32.toInt_inj, Int32.reduceToInt, n_1, n_2, n_8, Int32.toNatClampNeg, Int64.lt_iff_toInt_lt, Int64.le_iff_toInt_le, ← Int64.toInt_inj, Int64.reduceToInt, Int32.toInt_toInt64, lg_cmp_ge, lg_cmp_le, lg_cmp_gt, lg_cmp_lt, lg_cmp_eq, Bool.false_eq_true, Bool.true_eq_false, reduceCtorEq, false_iff, true_iff, iff_true, iff_false, and_true, true_and, and_false, false_and, reduceIte, ite_true, ite_false, eq_self] at *)) <;> omega) (by ((try simp only [vp_in_iff, Int32.lt_iff_toInt_lt, Int32.le_iff_toInt_le, ← Int32.toInt_inj, Int32.reduceToInt, n_1, n_2, n_8, Int32.toNatClampNeg, Int64.lt_iff_toInt_lt, Int64.le_iff_toInt_le, ← Int64.toInt_inj, Int64.reduceToInt, Int32.toInt_toInt64, lg_cmp_ge, lg_cmp_le, lg_cmp_gt, lg_cmp_lt, lg_cmp_eq, Bool.false_eq_true, Bool.true_eq_false, reduceCtorEq, false_iff, true_iff, iff_true, iff_false, and_true, true_and, and_false, false_and, reduceIte, ite_true, ite_false, eq_self] at *)) <;> omega) (by ((try simp only [vp_in_iff, Int32.lt_iff_toInt_lt, Int32.le_iff_toInt_le, ← Int32.toInt_inj, Int32.reduceToInt, n_1, n_2, n_8, Int32.toNatClampNeg, Int64.lt_iff_toInt_lt, Int64.le_iff_toInt_le, ← Int64.toInt_inj, Int64.reduceToInt, Int32.toInt_toInt64, lg_cmp_ge, lg_cmp_le, lg_cmp_gt, lg_cmp_lt, lg_cmp_eq, Bool.false_eq_true, Bool.true_eq_false, reduceCtorEq, false_iff, true_iff, iff_true, iff_false, and_true, true_and, and_false, false_and, reduceIte, ite_true, ite_false, eq_self] at *)) <;> omega) hv96
                                    clear hv96
                                    refine wa_istoreD (lv' := [(4, .int v96), (3, .int (bI false)), (0, .ref 84)]) (by decide) rfl ?_
                                    refine wa_goto o_X12_isNode_269 (by decide) ?_
                                    refine wa_pick [2, 1, 0] rfl ?_
                                    exact ih90 _ (by ((try simp only [vp_in_iff, Int32.lt_iff_toInt_lt, Int32.le_iff_toInt_le, ← Int32.toInt_inj, Int32.reduceToInt, n_1, n_2, n_8, Int32.toNatClampNeg, Int64.lt_iff_toInt_lt, Int64.le_iff_toInt_le, ← Int64.toInt_inj, Int64.reduceToInt, Int32.toInt_toInt64, lg_cmp_ge, lg_cmp_le, lg_cmp_gt, lg_cmp_lt, lg_cmp_eq, Bool.false_eq_true, Bool.true_eq_false, reduceCtorEq, false_iff, true_iff, iff_true, iff_false, and_true, true_and, and_false, false_and, reduceIte, ite_true, ite_false, eq_self] at *)) <;> omega) _ _ ⟨(by ((try simp only [vp_in_iff, Int32.lt_iff_toInt_lt, Int32.le_iff_toInt_le, ← Int32.toInt_inj, Int32.reduceToInt, n_1, n_2, n_8, Int32.toNatClampNeg, Int64.lt_iff_toInt_lt, Int64.le_iff_toInt_le, ← Int64.toInt_inj, Int64.reduceToInt, Int32.toInt_toInt64, lg_cmp_ge, lg_cmp_le, lg_cmp_gt, lg_cmp_lt, lg_cmp_eq, Bool.false_eq_true, Bool.true_eq_false, reduceCtorEq, false_iff, true_iff, iff_true, iff_false, and_true, true_and, and_false, false_and, reduceIte, ite_true, ite_false, eq_self] at *)) <;> omega), trivial⟩ rfl
                                  · replace h95 := bI_t (b := (gb σ 130 (l4).toNatClampNeg)) (rfl) h95
                                    refine wa_iconst (v := 1) (by decide) ?_
                                    refine wa_goto o_X12_isNode_294 (by decide) ?_
                                    refine wa_istore_nD (lv' := [(3, .int (bI true)), (0, .ref 84), (4, .int l4)]) (i := 3) rfl (by decide) rfl ?_
                                    refine wa_aload_n (i := 0) rfl rfl ?_
                                    refine wa_getr ck_12 fl_12_117 ly_84 rf_84_44 ?_
                                    refine wa_iload rfl ?_
                                    refine wa_iald ly_195 (by ((try simp only [vp_in_iff, Int32.lt_iff_toInt_lt, Int32.le_iff_toInt_le, ← Int32.toInt_inj, Int32.reduceToInt, n_1, n_2, n_8, Int32.toNatClampNeg, Int64.lt_iff_toInt_lt, Int64.le_iff_toInt_le, ← Int64.toInt_inj, Int64.reduceToInt, Int32.toInt_toInt64, lg_cmp_ge, lg_cmp_le, lg_cmp_gt, lg_cmp_lt, lg_cmp_eq, Bool.false_eq_true, Bool.true_eq_false, reduceCtorEq, false_iff, true_iff, iff_true, iff_false, and_true, true_and, and_false, false_and, reduceIte, ite_true, ite_false, eq_self] at *)) <;> omega) ?_
                                    refine wa_top (fun v97 hv97 => ?_)
                                    have rv97 := nok_next P_NOK (s := (a0).toNatClampNeg) (by ((try simp only [vp_in_iff, Int32.lt_iff_toInt_lt, Int32.le_iff_toInt_le, ← Int32.toInt_inj, Int32.reduceToInt, n_1, n_2, n_8, Int32.toNatClampNeg, Int64.lt_iff_toInt_lt, Int64.le_iff_toInt_le, ← Int64.toInt_inj, Int64.reduceToInt, Int32.toInt_toInt64, lg_cmp_ge, lg_cmp_le, lg_cmp_gt, lg_cmp_lt, lg_cmp_eq, Bool.false_eq_true, Bool.true_eq_false, reduceCtorEq, false_iff, true_iff, iff_true, iff_false, and_true, true_and, and_false, false_and, reduceIte, ite_true, ite_false, eq_self] at *)) <;> omega) (by ((try simp only [vp_in_iff, Int32.lt_iff_toInt_lt, Int32.le_iff_toInt_le, ← Int32.toInt_inj, Int32.reduceToInt, n_1, n_2, n_8, Int32.toNatClampNeg, Int64.lt_iff_toInt_lt, Int64.le_iff_toInt_le, ← Int64.toInt_inj, Int64.reduceToInt, Int32.toInt_toInt64, lg_cmp_ge, lg_cmp_le, lg_cmp_gt, lg_cmp_lt, lg_cmp_eq, Bool.false_eq_true, Bool.true_eq_false, reduceCtorEq, false_iff, true_iff, iff_true, iff_false, and_true, true_and, and_false, false_and, reduceIte, ite_true, ite_false, eq_self] at *)) <;> omega) (by ((try simp only [vp_in_iff, Int32.lt_iff_toInt_lt, Int32.le_iff_toInt_le, ← Int32.toInt_inj, Int32.reduceToInt, n_1, n_2, n_8, Int32.toNatClampNeg, Int64.lt_iff_toInt_lt, Int64.le_iff_toInt_le, ← Int64.toInt_inj, Int64.reduceToInt, Int32.toInt_toInt64, lg_cmp_ge, lg_cmp_le, lg_cmp_gt, lg_cmp_lt, lg_cmp_eq, Bool.false_eq_true, Bool.true_eq_false, reduceCtorEq, false_iff, true_iff, iff_true, iff_false, and_true, true_and, and_false, false_and, reduceIte, ite_true, ite_false, eq_self] at *)) <;> omega) hv97
                                    clear hv97
                                    refine wa_istoreD (lv' := [(4, .int v97), (3, .int (bI true)), (0, .ref 84)]) (by decide) rfl ?_
                                    refine wa_goto o_X12_isNode_269 (by decide) ?_
                                    refine wa_pick [2, 1, 0] rfl ?_
                                    exact ih90 _ (by ((try simp only [vp_in_iff, Int32.lt_iff_toInt_lt, Int32.le_iff_toInt_le, ← Int32.toInt_inj, Int32.reduceToInt, n_1, n_2, n_8, Int32.toNatClampNeg, Int64.lt_iff_toInt_lt, Int64.le_iff_toInt_le, ← Int64.toInt_inj, Int64.reduceToInt, Int32.toInt_toInt64, lg_cmp_ge, lg_cmp_le, lg_cmp_gt, lg_cmp_lt, lg_cmp_eq, Bool.false_eq_true, Bool.true_eq_false, reduceCtorEq, false_iff, true_iff, iff_true, iff_false, and_true, true_and, and_false, false_and, reduceIte, ite_true, ite_false, eq_self] at *)) <;> omega) _ _ ⟨(by ((try simp only [vp_in_iff, Int32.lt_iff_toInt_lt, Int32.le_iff_toInt_le, ← Int32.toInt_inj, Int32.reduceToInt, n_1, n_2, n_8, Int32.toNatClampNeg, Int64.lt_iff_toInt_lt, Int64.le_iff_toInt_le, ← Int64.toInt_inj, Int64.reduceToInt, Int32.toInt_toInt64, lg_cmp_ge, lg_cmp_le, lg_cmp_gt, lg_cmp_lt, lg_cmp_eq, Bool.false_eq_true, Bool.true_eq_false, reduceCtorEq, false_iff, true_iff, iff_true, iff_false, and_true, true_and, and_false, false_and, reduceIte, ite_true, ite_false, eq_self] at *)) <;> omega), trivial⟩ rfl
                          exact hi91 _ _ _ ⟨(by ((try simp only [vp_in_iff, Int32.lt_iff_toInt_lt, Int32.le_iff_toInt_le, ← Int32.toInt_inj, Int32.reduceToInt, n_1, n_2, n_8, Int32.toNatClampNeg, Int64.lt_iff_toInt_lt, Int64.le_iff_toInt_le, ← Int64.toInt_inj, Int64.reduceToInt, Int32.toInt_toInt64, lg_cmp_ge, lg_cmp_le, lg_cmp_gt, lg_cmp_lt, lg_cmp_eq, Bool.false_eq_true, Bool.true_eq_false, reduceCtorEq, false_iff, true_iff, iff_true, iff_false, and_true, true_and, and_false, false_and, reduceIte, ite_true, ite_false, eq_self] at *)) <;> omega), trivial⟩ rfl
                        ·
                          by_cases h98 : q2 = 15
                          · refine wa_tIn (by rw [h98]; decide) (by rw [h98]; decide) (by rw [h98] <;> rfl) o_X12_isNode_259 (by decide) ?_
                            refine wa_iconst (v := 0) (by decide) ?_
                            refine wa_istore_nD (lv' := [(3, .int (bI false)), (0, .ref 84), (1, .int a0), (2, .int a1)]) (i := 3) rfl (by decide) rfl ?_
                            refine wa_aload_n (i := 0) rfl rfl ?_
                            refine wa_getr ck_12 fl_12_111 ly_84 rf_84_42 ?_
                            refine wa_iload_n (i := 2) rfl rfl ?_
                            refine wa_iald ly_197 (by ((try simp only [vp_in_iff, Int32.lt_iff_toInt_lt, Int32.le_iff_toInt_le, ← Int32.toInt_inj, Int32.reduceToInt, n_1, n_2, n_8, Int32.toNatClampNeg, Int64.lt_iff_toInt_lt, Int64.le_iff_toInt_le, ← Int64.toInt_inj, Int64.reduceToInt, Int32.toInt_toInt64, lg_cmp_ge, lg_cmp_le, lg_cmp_gt, lg_cmp_lt, lg_cmp_eq, Bool.false_eq_true, Bool.true_eq_false, reduceCtorEq, false_iff, true_iff, iff_true, iff_false, and_true, true_and, and_false, false_and, reduceIte, ite_true, ite_false, eq_self] at *)) <;> omega) ?_
                            refine wa_top (fun v99 hv99 => ?_)
                            have qv99 := hv99
                            clear hv99
                            refine wa_istoreD (lv' := [(4, .int v99), (3, .int (bI false)), (0, .ref 84), (1, .int a0), (2, .int a1)]) (by decide) rfl ?_
                            refine wa_pick [2, 1, 0] rfl ?_
                            have hi101 : ∀ (n9_269 : Nat) (l3 : Bool) (l4 : Int32), ((l4.toInt = -1 ∨ (250 * a0.toInt ≤ l4.toInt ∧ l4.toInt < 250 * a0.toInt + (gi σ 194 (a0).toNatClampNeg).toInt)) ∧ (True)) → (6501 - (l4.toInt + 6502) % 6502).toNat = n9_269 → WA G M_X12_isNode (ZM G M_X12_isNode d (fun r σ' => ∃ x : Bool, r = some (.int (bI x)) ∧ σ = σ' ∧ True)) B_X12_isNode_269 [(0, .ref 84), (3, .int (bI l3)), (4, .int l4)] [] σ := by
                              intro n9_269
                              induction n9_269 using Nat.strongRecOn with
                              | _ n9_269 ih100 =>
                                intro l3 l4  i9 m9_269
                                obtain ⟨jhi101_0, -⟩ := i9
                                have ul4 := Int32.toInt_lt l4
                                have wl4 := Int32.le_toInt l4
                                refine wa_iload rfl ?_
                                refine wa_iconst (v := (-1)) (by decide) ?_
                                refine wa_icmp_eq o_X12_isNode_307 (by decide) (fun h102 => ?_) (fun h102 => ?_)
                                · refine wa_iload_n (i := 3) rfl rfl ?_
                                  refine wa_zreturn l3 (rfl) rfl rfl ?_
                                  exact ⟨_, rfl, rfl, trivial⟩
                                · refine wa_iload_n (i := 3) rfl rfl ?_
                                  refine wa_if_ne o_X12_isNode_289 (by decide) (fun h103 => ?_) (fun h103 => ?_)
                                  · replace h103 := bI_t (b := l3) (rfl) h103
                                    refine wa_iconst (v := 1) (by decide) ?_
                                    refine wa_goto o_X12_isNode_294 (by decide) ?_
                                    refine wa_istore_nD (lv' := [(3, .int (bI true)), (0, .ref 84), (4, .int l4)]) (i := 3) rfl (by decide) rfl ?_
                                    refine wa_aload_n (i := 0) rfl rfl ?_
                                    refine wa_getr ck_12 fl_12_117 ly_84 rf_84_44 ?_
                                    refine wa_iload rfl ?_
                                    refine wa_iald ly_195 (by ((try simp only [vp_in_iff, Int32.lt_iff_toInt_lt, Int32.le_iff_toInt_le, ← Int32.toInt_inj, Int32.reduceToInt, n_1, n_2, n_8, Int32.toNatClampNeg, Int64.lt_iff_toInt_lt, Int64.le_iff_toInt_le, ← Int64.toInt_inj, Int64.reduceToInt, Int32.toInt_toInt64, lg_cmp_ge, lg_cmp_le, lg_cmp_gt, lg_cmp_lt, lg_cmp_eq, Bool.false_eq_true, Bool.true_eq_false, reduceCtorEq, false_iff, true_iff, iff_true, iff_false, and_true, true_and, and_false, false_and, reduceIte, ite_true, ite_false, eq_self] at *)) <;> omega) ?_
                                    refine wa_top (fun v104 hv104 => ?_)
                                    have rv104 := nok_next P_NOK (s := (a0).toNatClampNeg) (by ((try simp only [vp_in_iff, Int32.lt_iff_toInt_lt, Int32.le_iff_toInt_le, ← Int32.toInt_inj, Int32.reduceToInt, n_1, n_2, n_8, Int32.toNatClampNeg, Int64.lt_iff_toInt_lt, Int64.le_iff_toInt_le, ← Int64.toInt_inj, Int64.reduceToInt, Int32.toInt_toInt64, lg_cmp_ge, lg_cmp_le, lg_cmp_gt, lg_cmp_lt, lg_cmp_eq, Bool.false_eq_true, Bool.true_eq_false, reduceCtorEq, false_iff, true_iff, iff_true, iff_false, and_true, true_and, and_false, false_and, reduceIte, ite_true, ite_false, eq_self] at *)) <;> omega) (by ((try simp only [vp_in_iff, Int32.lt_iff_toInt_lt, Int32.le_iff_toInt_le, ← Int32.toInt_inj, Int32.reduceToInt, n_1, n_2, n_8, Int32.toNatClampNeg, Int64.lt_iff_toInt_lt, Int64.le_iff_toInt_le, ← Int64.toInt_inj, Int64.reduceToInt, Int32.toInt_toInt64, lg_cmp_ge, lg_cmp_le, lg_cmp_gt, lg_cmp_lt, lg_cmp_eq, Bool.false_eq_true, Bool.true_eq_false, reduceCtorEq, false_iff, true_iff, iff_true, iff_false, and_true, true_and, and_false, false_and, reduceIte, ite_true, ite_false, eq_self] at *)) <;> omega) (by ((try simp only [vp_in_iff, Int32.lt_iff_toInt_lt, Int32.le_iff_toInt_le, ← Int32.toInt_inj, Int32.reduceToInt, n_1, n_2, n_8, Int32.toNatClampNeg, Int64.lt_iff_toInt_lt, Int64.le_iff_toInt_le, ← Int64.toInt_inj, Int64.reduceToInt, Int32.toInt_toInt64, lg_cmp_ge, lg_cmp_le, lg_cmp_gt, lg_cmp_lt, lg_cmp_eq, Bool.false_eq_true, Bool.true_eq_false, reduceCtorEq, false_iff, true_iff, iff_true, iff_false, and_true, true_and, and_false, false_and, reduceIte, ite_true, ite_false, eq_self] at *)) <;> omega) hv104
                                    clear hv104
                                    refine wa_istoreD (lv' := [(4, .int v104), (3, .int (bI true)), (0, .ref 84)]) (by decide) rfl ?_
                                    refine wa_goto o_X12_isNode_269 (by decide) ?_
                                    refine wa_pick [2, 1, 0] rfl ?_
                                    exact ih100 _ (by ((try simp only [vp_in_iff, Int32.lt_iff_toInt_lt, Int32.le_iff_toInt_le, ← Int32.toInt_inj, Int32.reduceToInt, n_1, n_2, n_8, Int32.toNatClampNeg, Int64.lt_iff_toInt_lt, Int64.le_iff_toInt_le, ← Int64.toInt_inj, Int64.reduceToInt, Int32.toInt_toInt64, lg_cmp_ge, lg_cmp_le, lg_cmp_gt, lg_cmp_lt, lg_cmp_eq, Bool.false_eq_true, Bool.true_eq_false, reduceCtorEq, false_iff, true_iff, iff_true, iff_false, and_true, true_and, and_false, false_and, reduceIte, ite_true, ite_false, eq_self] at *)) <;> omega) _ _ ⟨(by ((try simp only [vp_in_iff, Int32.lt_iff_toInt_lt, Int32.le_iff_toInt_le, ← Int32.toInt_inj, Int32.reduceToInt, n_1, n_2, n_8, Int32.toNatClampNeg, Int64.lt_iff_toInt_lt, Int64.le_iff_toInt_le, ← Int64.toInt_inj, Int64.reduceToInt, Int32.toInt_toInt64, lg_cmp_ge, lg_cmp_le, lg_cmp_gt, lg_cmp_lt, lg_cmp_eq, Bool.false_eq_true, Bool.true_eq_false, reduceCtorEq, false_iff, true_iff, iff_true, iff_false, and_true, true_and, and_false, false_and, reduceIte, ite_true, ite_false, eq_self] at *)) <;> omega), trivial⟩ rfl
                                  · replace h103 := bI_f (b := l3) (rfl) h103
                                    refine wa_aload_n (i := 0) rfl rfl ?_
                                    refine wa_getr ck_12 fl_12_313 ly_84 rf_84_124 ?_
                                    refine wa_iload rfl ?_
                                    refine wa_zald ly_130 (by ((try simp only [vp_in_iff, Int32.lt_iff_toInt_lt, Int32.le_iff_toInt_le, ← Int32.toInt_inj, Int32.reduceToInt, n_1, n_2, n_8, Int32.toNatClampNeg, Int64.lt_iff_toInt_lt, Int64.le_iff_toInt_le, ← Int64.toInt_inj, Int64.reduceToInt, Int32.toInt_toInt64, lg_cmp_ge, lg_cmp_le, lg_cmp_gt, lg_cmp_lt, lg_cmp_eq, Bool.false_eq_true, Bool.true_eq_false, reduceCtorEq, false_iff, true_iff, iff_true, iff_false, and_true, true_and, and_false, false_and, reduceIte, ite_true, ite_false, eq_self] at *)) <;> omega) ?_
                                    refine wa_if_eq o_X12_isNode_293 (by decide) (fun h105 => ?_) (fun h105 => ?_)
                                    · replace h105 := bI_f (b := (gb σ 130 (l4).toNatClampNeg)) (rfl) h105
                                      refine wa_iconst (v := 0) (by decide) ?_
                                      refine wa_istore_nD (lv' := [(3, .int (bI false)), (0, .ref 84), (4, .int l4)]) (i := 3) rfl (by decide) rfl ?_
                                      refine wa_aload_n (i := 0) rfl rfl ?_
                                      refine wa_getr ck_12 fl_12_117 ly_84 rf_84_44 ?_
                                      refine wa_iload rfl ?_
                                      refine wa_iald ly_195 (by ((try simp only [vp_in_iff, Int32.lt_iff_toInt_lt, Int32.le_iff_toInt_le, ← Int32.toInt_inj, Int32.reduceToInt, n_1, n_2, n_8, Int32.toNatClampNeg, Int64.lt_iff_toInt_lt, Int64.le_iff_toInt_le, ← Int64.toInt_inj, Int64.reduceToInt, Int32.toInt_toInt64, lg_cmp_ge, lg_cmp_le, lg_cmp_gt, lg_cmp_lt, lg_cmp_eq, Bool.false_eq_true, Bool.true_eq_false, reduceCtorEq, false_iff, true_iff, iff_true, iff_false, and_true, true_and, and_false, false_and, reduceIte, ite_true, ite_false, eq_self] at *)) <;> omega) ?_
                                      refine wa_top (fun v106 hv106 => ?_)
                                      have rv106 := nok_next P_NOK (s := (a0).toNatClampNeg) (by ((try simp only [vp_in_iff, Int32.lt_iff_toInt_lt, Int32.le_iff_toInt_le, ← Int32.toInt_inj, Int32.reduceToInt, n_1, n_2, n_8, Int32.toNatClampNeg, Int64.lt_iff_toInt_lt, Int64.le_iff_toInt_le, ← Int64.toInt_inj, Int64.reduceToInt, Int32.toInt_toInt64, lg_cmp_ge, lg_cmp_le, lg_cmp_gt, lg_cmp_lt, lg_cmp_eq, Bool.false_eq_true, Bool.true_eq_false, reduceCtorEq, false_iff, true_iff, iff_true, iff_false, and_true, true_and, and_false, false_and, reduceIte, ite_true, ite_false, eq_self] at *)) <;> omega) (by ((try simp only [vp_in_iff, Int32.lt_iff_toInt_lt, Int32.le_iff_toInt_le, ← Int32.toInt_inj, Int32.reduceToInt, n_1, n_2, n_8, Int32.toNatClampNeg, Int64.lt_iff_toInt_lt, Int64.le_iff_toInt_le, ← Int64.toInt_inj, Int64.reduceToInt, Int32.toInt_toInt64, lg_cmp_ge, lg_cmp_le, lg_cmp_gt, lg_cmp_lt, lg_cmp_eq, Bool.false_eq_true, Bool.true_eq_false, reduceCtorEq, false_iff, true_iff, iff_true, iff_false, and_true, true_and, and_false, false_and, reduceIte, ite_true, ite_false, eq_self] at *)) <;> omega) (by ((try simp only [vp_in_iff, Int32.lt_iff_toInt_lt, Int32.le_iff_toInt_le, ← Int32.toInt_inj, Int32.reduceToInt, n_1, n_2, n_8, Int32.toNatClampNeg, Int64.lt_iff_toInt_lt, Int64.le_iff_toInt_le, ← Int64.toInt_inj, Int64.reduceToInt, Int32.toInt_toInt64, lg_cmp_ge, lg_cmp_le, lg_cmp_gt, lg_cmp_lt, lg_cmp_eq, Bool.false_eq_true, Bool.true_eq_false, reduceCtorEq, false_iff, true_iff, iff_true, iff_false, and_true, true_and, and_false, false_and, reduceIte, ite_true, ite_false, eq_self] at *)) <;> omega) hv106
                                      clear hv106
                                      refine wa_istoreD (lv' := [(4, .int v106), (3, .int (bI false)), (0, .ref 84)]) (by decide) rfl ?_
                                      refine wa_goto o_X12_isNode_269 (by decide) ?_
                                      refine wa_pick [2, 1, 0] rfl ?_
                                      exact ih100 _ (by ((try simp only [vp_in_iff, Int32.lt_iff_toInt_lt, Int32.le_iff_toInt_le, ← Int32.toInt_inj, Int32.reduceToInt, n_1, n_2, n_8, Int32.toNatClampNeg, Int64.lt_iff_toInt_lt, Int64.le_iff_toInt_le, ← Int64.toInt_inj, Int64.reduceToInt, Int32.toInt_toInt64, lg_cmp_ge, lg_cmp_le, lg_cmp_gt, lg_cmp_lt, lg_cmp_eq, Bool.false_eq_true, Bool.true_eq_false, reduceCtorEq, false_iff, true_iff, iff_true, iff_false, and_true, true_and, and_false, false_and, reduceIte, ite_true, ite_false, eq_self] at *)) <;> omega) _ _ ⟨(by ((try simp only [vp_in_iff, Int32.lt_iff_toInt_lt, Int32.le_iff_toInt_le, ← Int32.toInt_inj, Int32.reduceToInt, n_1, n_2, n_8, Int32.toNatClampNeg, Int64.lt_iff_toInt_lt, Int64.le_iff_toInt_le, ← Int64.toInt_inj, Int64.reduceToInt, Int32.toInt_toInt64, lg_cmp_ge, lg_cmp_le, lg_cmp_gt, lg_cmp_lt, lg_cmp_eq, Bool.false_eq_true, Bool.true_eq_false, reduceCtorEq, false_iff, true_iff, iff_true, iff_false, and_true, true_and, and_false, false_and, reduceIte, ite_true, ite_false, eq_self] at *)) <;> omega), trivial⟩ rfl
                                    · replace h105 := bI_t (b := (gb σ 130 (l4).toNatClampNeg)) (rfl) h105
                                      refine wa_iconst (v := 1) (by decide) ?_
                                      refine wa_goto o_X12_isNode_294 (by decide) ?_
                                      refine wa_istore_nD (lv' := [(3, .int (bI true)), (0, .ref 84), (4, .int l4)]) (i := 3) rfl (by decide) rfl ?_
                                      refine wa_aload_n (i := 0) rfl rfl ?_
                                      refine wa_getr ck_12 fl_12_117 ly_84 rf_84_44 ?_
                                      refine wa_iload rfl ?_
                                      refine wa_iald ly_195 (by ((try simp only [vp_in_iff, Int32.lt_iff_toInt_lt, Int32.le_iff_toInt_le, ← Int32.toInt_inj, Int32.reduceToInt, n_1, n_2, n_8, Int32.toNatClampNeg, Int64.lt_iff_toInt_lt, Int64.le_iff_toInt_le, ← Int64.toInt_inj, Int64.reduceToInt, Int32.toInt_toInt64, lg_cmp_ge, lg_cmp_le, lg_cmp_gt, lg_cmp_lt, lg_cmp_eq, Bool.false_eq_true, Bool.true_eq_false, reduceCtorEq, false_iff, true_iff, iff_true, iff_false, and_true, true_and, and_false, false_and, reduceIte, ite_true, ite_false, eq_self] at *)) <;> omega) ?_
                                      refine wa_top (fun v107 hv107 => ?_)
                                      have rv107 := nok_next P_NOK (s := (a0).toNatClampNeg) (by ((try simp only [vp_in_iff, Int32.lt_iff_toInt_lt, Int32.le_iff_toInt_le, ← Int32.toInt_inj, Int32.reduceToInt, n_1, n_2, n_8, Int32.toNatClampNeg, Int64.lt_iff_toInt_lt, Int64.le_iff_toInt_le, ← Int64.toInt_inj, Int64.reduceToInt, Int32.toInt_toInt64, lg_cmp_ge, lg_cmp_le, lg_cmp_gt, lg_cmp_lt, lg_cmp_eq, Bool.false_eq_true, Bool.true_eq_false, reduceCtorEq, false_iff, true_iff, iff_true, iff_false, and_true, true_and, and_false, false_and, reduceIte, ite_true, ite_false, eq_self] at *)) <;> omega) (by ((try simp only [vp_in_iff, Int32.lt_iff_toInt_lt, Int32.le_iff_toInt_le, ← Int32.toInt_inj, Int32.reduceToInt, n_1, n_2, n_8, Int32.toNatClampNeg, Int64.lt_iff_toInt_lt, Int64.le_iff_toInt_le, ← Int64.toInt_inj, Int64.reduceToInt, Int32.toInt_toInt64, lg_cmp_ge, lg_cmp_le, lg_cmp_gt, lg_cmp_lt, lg_cmp_eq, Bool.false_eq_true, Bool.true_eq_false, reduceCtorEq, false_iff, true_iff, iff_true, iff_false, and_true, true_and, and_false, false_and, reduceIte, ite_true, ite_false, eq_self] at *)) <;> omega) (by ((try simp only [vp_in_iff, Int32.lt_iff_toInt_lt, Int32.le_iff_toInt_le, ← Int32.toInt_inj, Int32.reduceToInt, n_1, n_2, n_8, Int32.toNatClampNeg, Int64.lt_iff_toInt_lt, Int64.le_iff_toInt_le, ← Int64.toInt_inj, Int64.reduceToInt, Int32.toInt_toInt64, lg_cmp_ge, lg_cmp_le, lg_cmp_gt, lg_cmp_lt, lg_cmp_eq, Bool.false_eq_true, Bool.true_eq_false, reduceCtorEq, false_iff, true_iff, iff_true, iff_false, and_true, true_and, and_false, false_and, reduceIte, ite_true, ite_false, eq_self] at *)) <;> omega) hv107
                                      clear hv107
                                      refine wa_istoreD (lv' := [(4, .int v107), (3, .int (bI true)), (0, .ref 84)]) (by decide) rfl ?_
                                      refine wa_goto o_X12_isNode_269 (by decide) ?_
                                      refine wa_pick [2, 1, 0] rfl ?_
                                      exact ih100 _ (by ((try simp only [vp_in_iff, Int32.lt_iff_toInt_lt, Int32.le_iff_toInt_le, ← Int32.toInt_inj, Int32.reduceToInt, n_1, n_2, n_8, Int32.toNatClampNeg, Int64.lt_iff_toInt_lt, Int64.le_iff_toInt_le, ← Int64.toInt_inj, Int64.reduceToInt, Int32.toInt_toInt64, lg_cmp_ge, lg_cmp_le, lg_cmp_gt, lg_cmp_lt, lg_cmp_eq, Bool.false_eq_true, Bool.true_eq_false, reduceCtorEq, false_iff, true_iff, iff_true, iff_false, and_true, true_and, and_false, false_and, reduceIte, ite_true, ite_false, eq_self] at *)) <;> omega) _ _ ⟨(by ((try simp only [vp_in_iff, Int32.lt_iff_toInt_lt, Int32.le_iff_toInt_le, ← Int32.toInt_inj, Int32.reduceToInt, n_1, n_2, n_8, Int32.toNatClampNeg, Int64.lt_iff_toInt_lt, Int64.le_iff_toInt_le, ← Int64.toInt_inj, Int64.reduceToInt, Int32.toInt_toInt64, lg_cmp_ge, lg_cmp_le, lg_cmp_gt, lg_cmp_lt, lg_cmp_eq, Bool.false_eq_true, Bool.true_eq_false, reduceCtorEq, false_iff, true_iff, iff_true, iff_false, and_true, true_and, and_false, false_and, reduceIte, ite_true, ite_false, eq_self] at *)) <;> omega), trivial⟩ rfl
                            exact hi101 _ _ _ ⟨(by ((try simp only [vp_in_iff, Int32.lt_iff_toInt_lt, Int32.le_iff_toInt_le, ← Int32.toInt_inj, Int32.reduceToInt, n_1, n_2, n_8, Int32.toNatClampNeg, Int64.lt_iff_toInt_lt, Int64.le_iff_toInt_le, ← Int64.toInt_inj, Int64.reduceToInt, Int32.toInt_toInt64, lg_cmp_ge, lg_cmp_le, lg_cmp_gt, lg_cmp_lt, lg_cmp_eq, Bool.false_eq_true, Bool.true_eq_false, reduceCtorEq, false_iff, true_iff, iff_true, iff_false, and_true, true_and, and_false, false_and, reduceIte, ite_true, ite_false, eq_self] at *)) <;> omega), trivial⟩ rfl
                          ·
                            by_cases h108 : q2 = 16
                            · refine wa_tIn (by rw [h108]; decide) (by rw [h108]; decide) (by rw [h108] <;> rfl) o_X12_isNode_144 (by decide) ?_
                              refine wa_aload_n (i := 0) rfl rfl ?_
                              refine wa_getr ck_12 fl_12_313 ly_84 rf_84_124 ?_
                              refine wa_aload_n (i := 0) rfl rfl ?_
                              refine wa_getr ck_12 fl_12_111 ly_84 rf_84_42 ?_
                              refine wa_iload_n (i := 2) rfl rfl ?_
                              refine wa_iald ly_197 (by ((try simp only [vp_in_iff, Int32.lt_iff_toInt_lt, Int32.le_iff_toInt_le, ← Int32.toInt_inj, Int32.reduceToInt, n_1, n_2, n_8, Int32.toNatClampNeg, Int64.lt_iff_toInt_lt, Int64.le_iff_toInt_le, ← Int64.toInt_inj, Int64.reduceToInt, Int32.toInt_toInt64, lg_cmp_ge, lg_cmp_le, lg_cmp_gt, lg_cmp_lt, lg_cmp_eq, Bool.false_eq_true, Bool.true_eq_false, reduceCtorEq, false_iff, true_iff, iff_true, iff_false, and_true, true_and, and_false, false_and, reduceIte, ite_true, ite_false, eq_self] at *)) <;> omega) ?_
                              refine wa_top (fun v109 hv109 => ?_)
                              have qv109 := hv109
                              clear hv109
                              refine wa_zald ly_130 (by ((try simp only [vp_in_iff, Int32.lt_iff_toInt_lt, Int32.le_iff_toInt_le, ← Int32.toInt_inj, Int32.reduceToInt, n_1, n_2, n_8, Int32.toNatClampNeg, Int64.lt_iff_toInt_lt, Int64.le_iff_toInt_le, ← Int64.toInt_inj, Int64.reduceToInt, Int32.toInt_toInt64, lg_cmp_ge, lg_cmp_le, lg_cmp_gt, lg_cmp_lt, lg_cmp_eq, Bool.false_eq_true, Bool.true_eq_false, reduceCtorEq, false_iff, true_iff, iff_true, iff_false, and_true, true_and, and_false, false_and, reduceIte, ite_true, ite_false, eq_self] at *)) <;> omega) ?_
                              refine wa_if_eq o_X12_isNode_172 (by decide) (fun h110 => ?_) (fun h110 => ?_)
                              · replace h110 := bI_f (b := (gb σ 130 (v109).toNatClampNeg)) (rfl) h110
                                refine wa_iconst (v := 1) (by decide) ?_
                                refine wa_goto o_X12_isNode_177 (by decide) ?_
                                refine wa_zreturn true (rfl) rfl rfl ?_
                                exact ⟨_, rfl, rfl, trivial⟩
                              · replace h110 := bI_t (b := (gb σ 130 (v109).toNatClampNeg)) (rfl) h110
                                refine wa_aload_n (i := 0) rfl rfl ?_
                                refine wa_getr ck_12 fl_12_313 ly_84 rf_84_124 ?_
                                refine wa_aload_n (i := 0) rfl rfl ?_
                                refine wa_getr ck_12 fl_12_114 ly_84 rf_84_43 ?_
                                refine wa_iload_n (i := 2) rfl rfl ?_
                                refine wa_iald ly_196 (by ((try simp only [vp_in_iff, Int32.lt_iff_toInt_lt, Int32.le_iff_toInt_le, ← Int32.toInt_inj, Int32.reduceToInt, n_1, n_2, n_8, Int32.toNatClampNeg, Int64.lt_iff_toInt_lt, Int64.le_iff_toInt_le, ← Int64.toInt_inj, Int64.reduceToInt, Int32.toInt_toInt64, lg_cmp_ge, lg_cmp_le, lg_cmp_gt, lg_cmp_lt, lg_cmp_eq, Bool.false_eq_true, Bool.true_eq_false, reduceCtorEq, false_iff, true_iff, iff_true, iff_false, and_true, true_and, and_false, false_and, reduceIte, ite_true, ite_false, eq_self] at *)) <;> omega) ?_
                                refine wa_top (fun v111 hv111 => ?_)
                                have qv111 := hv111
                                clear hv111
                                refine wa_zald ly_130 (by ((try simp only [vp_in_iff, Int32.lt_iff_toInt_lt, Int32.le_iff_toInt_le, ← Int32.toInt_inj, Int32.reduceToInt, n_1, n_2, n_8, Int32.toNatClampNeg, Int64.lt_iff_toInt_lt, Int64.le_iff_toInt_le, ← Int64.toInt_inj, Int64.reduceToInt, Int32.toInt_toInt64, lg_cmp_ge, lg_cmp_le, lg_cmp_gt, lg_cmp_lt, lg_cmp_eq, Bool.false_eq_true, Bool.true_eq_false, reduceCtorEq, false_iff, true_iff, iff_true, iff_false, and_true, true_and, and_false, false_and, reduceIte, ite_true, ite_false, eq_self] at *)) <;> omega) ?_
                                refine wa_if_eq o_X12_isNode_176 (by decide) (fun h112 => ?_) (fun h112 => ?_)
                                · replace h112 := bI_f (b := (gb σ 130 (v111).toNatClampNeg)) (rfl) h112
                                  refine wa_iconst (v := 0) (by decide) ?_
                                  refine wa_zreturn false (rfl) rfl rfl ?_
                                  exact ⟨_, rfl, rfl, trivial⟩
                                · replace h112 := bI_t (b := (gb σ 130 (v111).toNatClampNeg)) (rfl) h112
                                  refine wa_iconst (v := 1) (by decide) ?_
                                  refine wa_goto o_X12_isNode_177 (by decide) ?_
                                  refine wa_zreturn true (rfl) rfl rfl ?_
                                  exact ⟨_, rfl, rfl, trivial⟩
                            ·
                              by_cases h113 : q2 = 17
                              · refine wa_tIn (by rw [h113]; decide) (by rw [h113]; decide) (by rw [h113] <;> rfl) o_X12_isNode_178 (by decide) ?_
                                refine wa_aload_n (i := 0) rfl rfl ?_
                                refine wa_getr ck_12 fl_12_313 ly_84 rf_84_124 ?_
                                refine wa_aload_n (i := 0) rfl rfl ?_
                                refine wa_getr ck_12 fl_12_111 ly_84 rf_84_42 ?_
                                refine wa_iload_n (i := 2) rfl rfl ?_
                                refine wa_iald ly_197 (by ((try simp only [vp_in_iff, Int32.lt_iff_toInt_lt, Int32.le_iff_toInt_le, ← Int32.toInt_inj, Int32.reduceToInt, n_1, n_2, n_8, Int32.toNatClampNeg, Int64.lt_iff_toInt_lt, Int64.le_iff_toInt_le, ← Int64.toInt_inj, Int64.reduceToInt, Int32.toInt_toInt64, lg_cmp_ge, lg_cmp_le, lg_cmp_gt, lg_cmp_lt, lg_cmp_eq, Bool.false_eq_true, Bool.true_eq_false, reduceCtorEq, false_iff, true_iff, iff_true, iff_false, and_true, true_and, and_false, false_and, reduceIte, ite_true, ite_false, eq_self] at *)) <;> omega) ?_
                                refine wa_top (fun v114 hv114 => ?_)
                                have qv114 := hv114
                                clear hv114
                                refine wa_zald ly_130 (by ((try simp only [vp_in_iff, Int32.lt_iff_toInt_lt, Int32.le_iff_toInt_le, ← Int32.toInt_inj, Int32.reduceToInt, n_1, n_2, n_8, Int32.toNatClampNeg, Int64.lt_iff_toInt_lt, Int64.le_iff_toInt_le, ← Int64.toInt_inj, Int64.reduceToInt, Int32.toInt_toInt64, lg_cmp_ge, lg_cmp_le, lg_cmp_gt, lg_cmp_lt, lg_cmp_eq, Bool.false_eq_true, Bool.true_eq_false, reduceCtorEq, false_iff, true_iff, iff_true, iff_false, and_true, true_and, and_false, false_and, reduceIte, ite_true, ite_false, eq_self] at *)) <;> omega) ?_
                                refine wa_aload_n (i := 0) rfl rfl ?_
                                refine wa_getr ck_12 fl_12_313 ly_84 rf_84_124 ?_
                                refine wa_aload_n (i := 0) rfl rfl ?_
                                refine wa_getr ck_12 fl_12_114 ly_84 rf_84_43 ?_
                                refine wa_iload_n (i := 2) rfl rfl ?_
                                refine wa_iald ly_196 (by ((try simp only [vp_in_iff, Int32.lt_iff_toInt_lt, Int32.le_iff_toInt_le, ← Int32.toInt_inj, Int32.reduceToInt, n_1, n_2, n_8, Int32.toNatClampNeg, Int64.lt_iff_toInt_lt, Int64.le_iff_toInt_le, ← Int64.toInt_inj, Int64.reduceToInt, Int32.toInt_toInt64, lg_cmp_ge, lg_cmp_le, lg_cmp_gt, lg_cmp_lt, lg_cmp_eq, Bool.false_eq_true, Bool.true_eq_false, reduceCtorEq, false_iff, true_iff, iff_true, iff_false, and_true, true_and, and_false, false_and, reduceIte, ite_true, ite_false, eq_self] at *)) <;> omega) ?_
                                refine wa_top (fun v115 hv115 => ?_)
                                have qv115 := hv115
                                clear hv115
                                refine wa_zald ly_130 (by ((try simp only [vp_in_iff, Int32.lt_iff_toInt_lt, Int32.le_iff_toInt_le, ← Int32.toInt_inj, Int32.reduceToInt, n_1, n_2, n_8, Int32.toNatClampNeg, Int64.lt_iff_toInt_lt, Int64.le_iff_toInt_le, ← Int64.toInt_inj, Int64.reduceToInt, Int32.toInt_toInt64, lg_cmp_ge, lg_cmp_le, lg_cmp_gt, lg_cmp_lt, lg_cmp_eq, Bool.false_eq_true, Bool.true_eq_false, reduceCtorEq, false_iff, true_iff, iff_true, iff_false, and_true, true_and, and_false, false_and, reduceIte, ite_true, ite_false, eq_self] at *)) <;> omega) ?_
                                refine wa_icmp_ne o_X12_isNode_207 (by decide) (fun h116 => ?_) (fun h116 => ?_)
                                · refine wa_iconst (v := 0) (by decide) ?_
                                  refine wa_zreturn false (rfl) rfl rfl ?_
                                  exact ⟨_, rfl, rfl, trivial⟩
                                · refine wa_iconst (v := 1) (by decide) ?_
                                  refine wa_goto o_X12_isNode_208 (by decide) ?_
                                  refine wa_zreturn true (rfl) rfl rfl ?_
                                  exact ⟨_, rfl, rfl, trivial⟩
                              ·
                                by_cases h117 : q2 = 18
                                · refine wa_tIn (by rw [h117]; decide) (by rw [h117]; decide) (by rw [h117] <;> rfl) o_X12_isNode_259 (by decide) ?_
                                  refine wa_iconst (v := 0) (by decide) ?_
                                  refine wa_istore_nD (lv' := [(3, .int (bI false)), (0, .ref 84), (1, .int a0), (2, .int a1)]) (i := 3) rfl (by decide) rfl ?_
                                  refine wa_aload_n (i := 0) rfl rfl ?_
                                  refine wa_getr ck_12 fl_12_111 ly_84 rf_84_42 ?_
                                  refine wa_iload_n (i := 2) rfl rfl ?_
                                  refine wa_iald ly_197 (by ((try simp only [vp_in_iff, Int32.lt_iff_toInt_lt, Int32.le_iff_toInt_le, ← Int32.toInt_inj, Int32.reduceToInt, n_1, n_2, n_8, Int32.toNatClampNeg, Int64.lt_iff_toInt_lt, Int64.le_iff_toInt_le, ← Int64.toInt_inj, Int64.reduceToInt, Int32.toInt_toInt64, lg_cmp_ge, lg_cmp_le, lg_cmp_gt, lg_cmp_lt, lg_cmp_eq, Bool.false_eq_true, Bool.true_eq_false, reduceCtorEq, false_iff, true_iff, iff_true, iff_false, and_true, true_and, and_false, false_and, reduceIte, ite_true, ite_false, eq_self] at *)) <;> omega) ?_
                                  refine wa_top (fun v118 hv118 => ?_)
                                  have qv118 := hv118
                                  clear hv118
                                  refine wa_istoreD (lv' := [(4, .int v118), (3, .int (bI false)), (0, .ref 84), (1, .int a0), (2, .int a1)]) (by decide) rfl ?_
                                  refine wa_pick [2, 1, 0] rfl ?_
                                  have hi120 : ∀ (n9_269 : Nat) (l3 : Bool) (l4 : Int32), ((l4.toInt = -1 ∨ (250 * a0.toInt ≤ l4.toInt ∧ l4.toInt < 250 * a0.toInt + (gi σ 194 (a0).toNatClampNeg).toInt)) ∧ (True)) → (6501 - (l4.toInt + 6502) % 6502).toNat = n9_269 → WA G M_X12_isNode (ZM G M_X12_isNode d (fun r σ' => ∃ x : Bool, r = some (.int (bI x)) ∧ σ = σ' ∧ True)) B_X12_isNode_269 [(0, .ref 84), (3, .int (bI l3)), (4, .int l4)] [] σ := by
                                    intro n9_269
                                    induction n9_269 using Nat.strongRecOn with
                                    | _ n9_269 ih119 =>
                                      intro l3 l4  i9 m9_269
                                      obtain ⟨jhi120_0, -⟩ := i9
                                      have ul4 := Int32.toInt_lt l4
                                      have wl4 := Int32.le_toInt l4
                                      refine wa_iload rfl ?_
                                      refine wa_iconst (v := (-1)) (by decide) ?_
                                      refine wa_icmp_eq o_X12_isNode_307 (by decide) (fun h121 => ?_) (fun h121 => ?_)
                                      · refine wa_iload_n (i := 3) rfl rfl ?_
                                        refine wa_zreturn l3 (rfl) rfl rfl ?_
                                        exact ⟨_, rfl, rfl, trivial⟩
                                      · refine wa_iload_n (i := 3) rfl rfl ?_
                                        refine wa_if_ne o_X12_isNode_289 (by decide) (fun h122 => ?_) (fun h122 => ?_)
                                        · replace h122 := bI_t (b := l3) (rfl) h122
                                          refine wa_iconst (v := 1) (by decide) ?_
                                          refine wa_goto o_X12_isNode_294 (by decide) ?_
                                          refine wa_istore_nD (lv' := [(3, .int (bI true)), (0, .ref 84), (4, .int l4)]) (i := 3) rfl (by decide) rfl ?_
                                          refine wa_aload_n (i := 0) rfl rfl ?_
                                          refine wa_getr ck_12 fl_12_117 ly_84 rf_84_44 ?_
                                          refine wa_iload rfl ?_
                                          refine wa_iald ly_195 (by ((try simp only [vp_in_iff, Int32.lt_iff_toInt_lt, Int32.le_iff_toInt_le, ← Int32.toInt_inj, Int32.reduceToInt, n_1, n_2, n_8, Int32.toNatClampNeg, Int64.lt_iff_toInt_lt, Int64.le_iff_toInt_le, ← Int64.toInt_inj, Int64.reduceToInt, Int32.toInt_toInt64, lg_cmp_ge, lg_cmp_le, lg_cmp_gt, lg_cmp_lt, lg_cmp_eq, Bool.false_eq_true, Bool.true_eq_false, reduceCtorEq, false_iff, true_iff, iff_true, iff_false, and_true, true_and, and_false, false_and, reduceIte, ite_true, ite_false, eq_self] at *)) <;> omega) ?_
                                          refine wa_top (fun v123 hv123 => ?_)
                                          have rv123 := nok_next P_NOK (s := (a0).toNatClampNeg) (by ((try simp only [vp_in_iff, Int32.lt_iff_toInt_lt, Int32.le_iff_toInt_le, ← Int32.toInt_inj, Int32.reduceToInt, n_1, n_2, n_8, Int32.toNatClampNeg, Int64.lt_iff_toInt_lt, Int64.le_iff_toInt_le, ← Int64.toInt_inj, Int64.reduceToInt, Int32.toInt_toInt64, lg_cmp_ge, lg_cmp_le, lg_cmp_gt, lg_cmp_lt, lg_cmp_eq, Bool.false_eq_true, Bool.true_eq_false, reduceCtorEq, false_iff, true_iff, iff_true, iff_false, and_true, true_and, and_false, false_and, reduceIte, ite_true, ite_false, eq_self] at *)) <;> omega) (by ((try simp only [vp_in_iff, Int32.lt_iff_toInt_lt, Int32.le_iff_toInt_le, ← Int32.toInt_inj, Int32.reduceToInt, n_1, n_2, n_8, Int32.toNatClampNeg, Int64.lt_iff_toInt_lt, Int64.le_iff_toInt_le, ← Int64.toInt_inj, Int64.reduceToInt, Int32.toInt_toInt64, lg_cmp_ge, lg_cmp_le, lg_cmp_gt, lg_cmp_lt, lg_cmp_eq, Bool.false_eq_true, Bool.true_eq_false, reduceCtorEq, false_iff, true_iff, iff_true, iff_false, and_true, true_and, and_false, false_and, reduceIte, ite_true, ite_false, eq_self] at *)) <;> omega) (by ((try simp only [vp_in_iff, Int32.lt_iff_toInt_lt, Int32.le_iff_toInt_le, ← Int32.toInt_inj, Int32.reduceToInt, n_1, n_2, n_8, Int32.toNatClampNeg, Int64.lt_iff_toInt_lt, Int64.le_iff_toInt_le, ← Int64.toInt_inj, Int64.reduceToInt, Int32.toInt_toInt64, lg_cmp_ge, lg_cmp_le, lg_cmp_gt, lg_cmp_lt, lg_cmp_eq, Bool.false_eq_true, Bool.true_eq_false, reduceCtorEq, false_iff, true_iff, iff_true, iff_false, and_true, true_and, and_false, false_and, reduceIte, ite_true, ite_false, eq_self] at *)) <;> omega) hv123
                                          clear hv123
                                          refine wa_istoreD (lv' := [(4, .int v123), (3, .int (bI true)), (0, .ref 84)]) (by decide) rfl ?_
                                          refine wa_goto o_X12_isNode_269 (by decide) ?_
                                          refine wa_pick [2, 1, 0] rfl ?_
                                          exact ih119 _ (by ((try simp only [vp_in_iff, Int32.lt_iff_toInt_lt, Int32.le_iff_toInt_le, ← Int32.toInt_inj, Int32.reduceToInt, n_1, n_2, n_8, Int32.toNatClampNeg, Int64.lt_iff_toInt_lt, Int64.le_iff_toInt_le, ← Int64.toInt_inj, Int64.reduceToInt, Int32.toInt_toInt64, lg_cmp_ge, lg_cmp_le, lg_cmp_gt, lg_cmp_lt, lg_cmp_eq, Bool.false_eq_true, Bool.true_eq_false, reduceCtorEq, false_iff, true_iff, iff_true, iff_false, and_true, true_and, and_false, false_and, reduceIte, ite_true, ite_false, eq_self] at *)) <;> omega) _ _ ⟨(by ((try simp only [vp_in_iff, Int32.lt_iff_toInt_lt, Int32.le_iff_toInt_le, ← Int32.toInt_inj, Int32.reduceToInt, n_1, n_2, n_8, Int32.toNatClampNeg, Int64.lt_iff_toInt_lt, Int64.le_iff_toInt_le, ← Int64.toInt_inj, Int64.reduceToInt, Int32.toInt_toInt64, lg_cmp_ge, lg_cmp_le, lg_cmp_gt, lg_cmp_lt, lg_cmp_eq, Bool.false_eq_true, Bool.true_eq_false, reduceCtorEq, false_iff, true_iff, iff_true, iff_false, and_true, true_and, and_false, false_and, reduceIte, ite_true, ite_false, eq_self] at *)) <;> omega), trivial⟩ rfl
                                        · replace h122 := bI_f (b := l3) (rfl) h122
                                          refine wa_aload_n (i := 0) rfl rfl ?_
                                          refine wa_getr ck_12 fl_12_313 ly_84 rf_84_124 ?_
                                          refine wa_iload rfl ?_
                                          refine wa_zald ly_130 (by ((try simp only [vp_in_iff, Int32.lt_iff_toInt_lt, Int32.le_iff_toInt_le, ← Int32.toInt_inj, Int32.reduceToInt, n_1, n_2, n_8, Int32.toNatClampNeg, Int64.lt_iff_toInt_lt, Int64.le_iff_toInt_le, ← Int64.toInt_inj, Int64.reduceToInt, Int32.toInt_toInt64, lg_cmp_ge, lg_cmp_le, lg_cmp_gt, lg_cmp_lt, lg_cmp_eq, Bool.false_eq_true, Bool.true_eq_false, reduceCtorEq, false_iff, true_iff, iff_true, iff_false, and_true, true_and, and_false, false_and, reduceIte, ite_true, ite_false, eq_self] at *)) <;> omega) ?_
                                          refine wa_if_eq o_X12_isNode_293 (by decide) (fun h124 => ?_) (fun h124 => ?_)
                                          · replace h124 := bI_f (b := (gb σ 130 (l4).toNatClampNeg)) (rfl) h124
                                            refine wa_iconst (v := 0) (by decide) ?_
                                            refine wa_istore_nD (lv' := [(3, .int (bI false)), (0, .ref 84), (4, .int l4)]) (i := 3) rfl (by decide) rfl ?_
                                            refine wa_aload_n (i := 0) rfl rfl ?_
                                            refine wa_getr ck_12 fl_12_117 ly_84 rf_84_44 ?_
                                            refine wa_iload rfl ?_
                                            refine wa_iald ly_195 (by ((try simp only [vp_in_iff, Int32.lt_iff_toInt_lt, Int32.le_iff_toInt_le, ← Int32.toInt_inj, Int32.reduceToInt, n_1, n_2, n_8, Int32.toNatClampNeg, Int64.lt_iff_toInt_lt, Int64.le_iff_toInt_le, ← Int64.toInt_inj, Int64.reduceToInt, Int32.toInt_toInt64, lg_cmp_ge, lg_cmp_le, lg_cmp_gt, lg_cmp_lt, lg_cmp_eq, Bool.false_eq_true, Bool.true_eq_false, reduceCtorEq, false_iff, true_iff, iff_true, iff_false, and_true, true_and, and_false, false_and, reduceIte, ite_true, ite_false, eq_self] at *)) <;> omega) ?_
                                            refine wa_top (fun v125 hv125 => ?_)
                                            have rv125 := nok_next P_NOK (s := (a0).toNatClampNeg) (by ((try simp only [vp_in_iff, Int32.lt_iff_toInt_lt, Int32.le_iff_toInt_le, ← Int32.toInt_inj, Int32.reduceToInt, n_1, n_2, n_8, Int32.toNatClampNeg, Int64.lt_iff_toInt_lt, Int64.le_iff_toInt_le, ← Int64.toInt_inj, Int64.reduceToInt, Int32.toInt_toInt64, lg_cmp_ge, lg_cmp_le, lg_cmp_gt, lg_cmp_lt, lg_cmp_eq, Bool.false_eq_true, Bool.true_eq_false, reduceCtorEq, false_iff, true_iff, iff_true, iff_false, and_true, true_and, and_false, false_and, reduceIte, ite_true, ite_false, eq_self] at *)) <;> omega) (by ((try simp only [vp_in_iff, Int32.lt_iff_toInt_lt, Int32.le_iff_toInt_le, ← Int32.toInt_inj, Int32.reduceToInt, n_1, n_2, n_8, Int32.toNatClampNeg, Int64.lt_iff_toInt_lt, Int64.le_iff_toInt_le, ← Int64.toInt_inj, Int64.reduceToInt, Int32.toInt_toInt64, lg_cmp_ge, lg_cmp_le, lg_cmp_gt, lg_cmp_lt, lg_cmp_eq, Bool.false_eq_true, Bool.true_eq_false, reduceCtorEq, false_iff, true_iff, iff_true, iff_false, and_true, true_and, and_false, false_and, reduceIte, ite_true, ite_false, eq_self] at *)) <;> omega) (by ((try simp only [vp_in_iff, Int32.lt_iff_toInt_lt, Int32.le_iff_toInt_le, ← Int32.toInt_inj, Int32.reduceToInt, n_1, n_2, n_8, Int32.toNatClampNeg, Int64.lt_iff_toInt_lt, Int64.le_iff_toInt_le, ← Int64.toInt_inj, Int64.reduceToInt, Int32.toInt_toInt64, lg_cmp_ge, lg_cmp_le, lg_cmp_gt, lg_cmp_lt, lg_cmp_eq, Bool.false_eq_true, Bool.true_eq_false, reduceCtorEq, false_iff, true_iff, iff_true, iff_false, and_true, true_and, and_false, false_and, reduceIte, ite_true, ite_false, eq_self] at *)) <;> omega) hv125
                                            clear hv125
                                            refine wa_istoreD (lv' := [(4, .int v125), (3, .int (bI false)), (0, .ref 84)]) (by decide) rfl ?_
                                            refine wa_goto o_X12_isNode_269 (by decide) ?_
                                            refine wa_pick [2, 1, 0] rfl ?_
                                            exact ih119 _ (by ((try simp only [vp_in_iff, Int32.lt_iff_toInt_lt, Int32.le_iff_toInt_le, ← Int32.toInt_inj, Int32.reduceToInt, n_1, n_2, n_8, Int32.toNatClampNeg, Int64.lt_iff_toInt_lt, Int64.le_iff_toInt_le, ← Int64.toInt_inj, Int64.reduceToInt, Int32.toInt_toInt64, lg_cmp_ge, lg_cmp_le, lg_cmp_gt, lg_cmp_lt, lg_cmp_eq, Bool.false_eq_true, Bool.true_eq_false, reduceCtorEq, false_iff, true_iff, iff_true, iff_false, and_true, true_and, and_false, false_and, reduceIte, ite_true, ite_false, eq_self] at *)) <;> omega) _ _ ⟨(by ((try simp only [vp_in_iff, Int32.lt_iff_toInt_lt, Int32.le_iff_toInt_le, ← Int32.toInt_inj, Int32.reduceToInt, n_1, n_2, n_8, Int32.toNatClampNeg, Int64.lt_iff_toInt_lt, Int64.le_iff_toInt_le, ← Int64.toInt_inj, Int64.reduceToInt, Int32.toInt_toInt64, lg_cmp_ge, lg_cmp_le, lg_cmp_gt, lg_cmp_lt, lg_cmp_eq, Bool.false_eq_true, Bool.true_eq_false, reduceCtorEq, false_iff, true_iff, iff_true, iff_false, and_true, true_and, and_false, false_and, reduceIte, ite_true, ite_false, eq_self] at *)) <;> omega), trivial⟩ rfl
                                          · replace h124 := bI_t (b := (gb σ 130 (l4).toNatClampNeg)) (rfl) h124
                                            refine wa_iconst (v := 1) (by decide) ?_
                                            refine wa_goto o_X12_isNode_294 (by decide) ?_
                                            refine wa_istore_nD (lv' := [(3, .int (bI true)), (0, .ref 84), (4, .int l4)]) (i := 3) rfl (by decide) rfl ?_
                                            refine wa_aload_n (i := 0) rfl rfl ?_
                                            refine wa_getr ck_12 fl_12_117 ly_84 rf_84_44 ?_
                                            refine wa_iload rfl ?_
                                            refine wa_iald ly_195 (by ((try simp only [vp_in_iff, Int32.lt_iff_toInt_lt, Int32.le_iff_toInt_le, ← Int32.toInt_inj, Int32.reduceToInt, n_1, n_2, n_8, Int32.toNatClampNeg, Int64.lt_iff_toInt_lt, Int64.le_iff_toInt_le, ← Int64.toInt_inj, Int64.reduceToInt, Int32.toInt_toInt64, lg_cmp_ge, lg_cmp_le, lg_cmp_gt, lg_cmp_lt, lg_cmp_eq, Bool.false_eq_true, Bool.true_eq_false, reduceCtorEq, false_iff, true_iff, iff_true, iff_false, and_true, true_and, and_false, false_and, reduceIte, ite_true, ite_false, eq_self] at *)) <;> omega) ?_
                                            refine wa_top (fun v126 hv126 => ?_)
                                            have rv126 := nok_next P_NOK (s := (a0).toNatClampNeg) (by ((try simp only [vp_in_iff, Int32.lt_iff_toInt_lt, Int32.le_iff_toInt_le, ← Int32.toInt_inj, Int32.reduceToInt, n_1, n_2, n_8, Int32.toNatClampNeg, Int64.lt_iff_toInt_lt, Int64.le_iff_toInt_le, ← Int64.toInt_inj, Int64.reduceToInt, Int32.toInt_toInt64, lg_cmp_ge, lg_cmp_le, lg_cmp_gt, lg_cmp_lt, lg_cmp_eq, Bool.false_eq_true, Bool.true_eq_false, reduceCtorEq, false_iff, true_iff, iff_true, iff_false, and_true, true_and, and_false, false_and, reduceIte, ite_true, ite_false, eq_self] at *)) <;> omega) (by ((try simp only [vp_in_iff, Int32.lt_iff_toInt_lt, Int32.le_iff_toInt_le, ← Int32.toInt_inj, Int32.reduceToInt, n_1, n_2, n_8, Int32.toNatClampNeg, Int64.lt_iff_toInt_lt, Int64.le_iff_toInt_le, ← Int64.toInt_inj, Int64.reduceToInt, Int32.toInt_toInt64, lg_cmp_ge, lg_cmp_le, lg_cmp_gt, lg_cmp_lt, lg_cmp_eq, Bool.false_eq_true, Bool.true_eq_false, reduceCtorEq, false_iff, true_iff, iff_true, iff_false, and_true, true_and, and_false, false_and, reduceIte, ite_true, ite_false, eq_self] at *)) <;> omega) (by ((try simp only [vp_in_iff, Int32.lt_iff_toInt_lt, Int32.le_iff_toInt_le, ← Int32.toInt_inj, Int32.reduceToInt, n_1, n_2, n_8, Int32.toNatClampNeg, Int64.lt_iff_toInt_lt, Int64.le_iff_toInt_le, ← Int64.toInt_inj, Int64.reduceToInt, Int32.toInt_toInt64, lg_cmp_ge, lg_cmp_le, lg_cmp_gt, lg_cmp_lt, lg_cmp_eq, Bool.false_eq_true, Bool.true_eq_false, reduceCtorEq, false_iff, true_iff, iff_true, iff_false, and_true, true_and, and_false, false_and, reduceIte, ite_true, ite_false, eq_self] at *)) <;> omega) hv126
                                            clear hv126
                                            refine wa_istoreD (lv' := [(4, .int v126), (3, .int (bI true)), (0, .ref 84)]) (by decide) rfl ?_
                                            refine wa_goto o_X12_isNode_269 (by decide) ?_
                                            refine wa_pick [2, 1, 0] rfl ?_
                                            exact ih119 _ (by ((try simp only [vp_in_iff, Int32.lt_iff_toInt_lt, Int32.le_iff_toInt_le, ← Int32.toInt_inj, Int32.reduceToInt, n_1, n_2, n_8, Int32.toNatClampNeg, Int64.lt_iff_toInt_lt, Int64.le_iff_toInt_le, ← Int64.toInt_inj, Int64.reduceToInt, Int32.toInt_toInt64, lg_cmp_ge, lg_cmp_le, lg_cmp_gt, lg_cmp_lt, lg_cmp_eq, Bool.false_eq_true, Bool.true_eq_false, reduceCtorEq, false_iff, true_iff, iff_true, iff_false, and_true, true_and, and_false, false_and, reduceIte, ite_true, ite_false, eq_self] at *)) <;> omega) _ _ ⟨(by ((try simp only [vp_in_iff, Int32.lt_iff_toInt_lt, Int32.le_iff_toInt_le, ← Int32.toInt_inj, Int32.reduceToInt, n_1, n_2, n_8, Int32.toNatClampNeg, Int64.lt_iff_toInt_lt, Int64.le_iff_toInt_le, ← Int64.toInt_inj, Int64.reduceToInt, Int32.toInt_toInt64, lg_cmp_ge, lg_cmp_le, lg_cmp_gt, lg_cmp_lt, lg_cmp_eq, Bool.false_eq_true, Bool.true_eq_false, reduceCtorEq, false_iff, true_iff, iff_true, iff_false, and_true, true_and, and_false, false_and, reduceIte, ite_true, ite_false, eq_self] at *)) <;> omega), trivial⟩ rfl
                                  exact hi120 _ _ _ ⟨(by ((try simp only [vp_in_iff, Int32.lt_iff_toInt_lt, Int32.le_iff_toInt_le, ← Int32.toInt_inj, Int32.reduceToInt, n_1, n_2, n_8, Int32.toNatClampNeg, Int64.lt_iff_toInt_lt, Int64.le_iff_toInt_le, ← Int64.toInt_inj, Int64.reduceToInt, Int32.toInt_toInt64, lg_cmp_ge, lg_cmp_le, lg_cmp_gt, lg_cmp_lt, lg_cmp_eq, Bool.false_eq_true, Bool.true_eq_false, reduceCtorEq, false_iff, true_iff, iff_true, iff_false, and_true, true_and, and_false, false_and, reduceIte, ite_true, ite_false, eq_self] at *)) <;> omega), trivial⟩ rfl
                                ·
                                  by_cases h127 : q2 = 19
                                  · refine wa_tIn (by rw [h127]; decide) (by rw [h127]; decide) (by rw [h127] <;> rfl) o_X12_isNode_259 (by decide) ?_
                                    refine wa_iconst (v := 0) (by decide) ?_
                                    refine wa_istore_nD (lv' := [(3, .int (bI false)), (0, .ref 84), (1, .int a0), (2, .int a1)]) (i := 3) rfl (by decide) rfl ?_
                                    refine wa_aload_n (i := 0) rfl rfl ?_
                                    refine wa_getr ck_12 fl_12_111 ly_84 rf_84_42 ?_
                                    refine wa_iload_n (i := 2) rfl rfl ?_
                                    refine wa_iald ly_197 (by ((try simp only [vp_in_iff, Int32.lt_iff_toInt_lt, Int32.le_iff_toInt_le, ← Int32.toInt_inj, Int32.reduceToInt, n_1, n_2, n_8, Int32.toNatClampNeg, Int64.lt_iff_toInt_lt, Int64.le_iff_toInt_le, ← Int64.toInt_inj, Int64.reduceToInt, Int32.toInt_toInt64, lg_cmp_ge, lg_cmp_le, lg_cmp_gt, lg_cmp_lt, lg_cmp_eq, Bool.false_eq_true, Bool.true_eq_false, reduceCtorEq, false_iff, true_iff, iff_true, iff_false, and_true, true_and, and_false, false_and, reduceIte, ite_true, ite_false, eq_self] at *)) <;> omega) ?_
                                    refine wa_top (fun v128 hv128 => ?_)
                                    have qv128 := hv128
                                    clear hv128
                                    refine wa_istoreD (lv' := [(4, .int v128), (3, .int (bI false)), (0, .ref 84), (1, .int a0), (2, .int a1)]) (by decide) rfl ?_
                                    refine wa_pick [2, 1, 0] rfl ?_
                                    have hi130 : ∀ (n9_269 : Nat) (l3 : Bool) (l4 : Int32), ((l4.toInt = -1 ∨ (250 * a0.toInt ≤ l4.toInt ∧ l4.toInt < 250 * a0.toInt + (gi σ 194 (a0).toNatClampNeg).toInt)) ∧ (True)) → (6501 - (l4.toInt + 6502) % 6502).toNat = n9_269 → WA G M_X12_isNode (ZM G M_X12_isNode d (fun r σ' => ∃ x : Bool, r = some (.int (bI x)) ∧ σ = σ' ∧ True)) B_X12_isNode_269 [(0, .ref 84), (3, .int (bI l3)), (4, .int l4)] [] σ := by
                                      intro n9_269
                                      induction n9_269 using Nat.strongRecOn with
                                      | _ n9_269 ih129 =>
                                        intro l3 l4  i9 m9_269
                                        obtain ⟨jhi130_0, -⟩ := i9
                                        have ul4 := Int32.toInt_lt l4
                                        have wl4 := Int32.le_toInt l4
                                        refine wa_iload rfl ?_
                                        refine wa_iconst (v := (-1)) (by decide) ?_
                                        refine wa_icmp_eq o_X12_isNode_307 (by decide) (fun h131 => ?_) (fun h131 => ?_)
                                        · refine wa_iload_n (i := 3) rfl rfl ?_
                                          refine wa_zreturn l3 (rfl) rfl rfl ?_
                                          exact ⟨_, rfl, rfl, trivial⟩
                                        · refine wa_iload_n (i := 3) rfl rfl ?_
                                          refine wa_if_ne o_X12_isNode_289 (by decide) (fun h132 => ?_) (fun h132 => ?_)
                                          · replace h132 := bI_t (b := l3) (rfl) h132
                                            refine wa_iconst (v := 1) (by decide) ?_
                                            refine wa_goto o_X12_isNode_294 (by decide) ?_
                                            refine wa_istore_nD (lv' := [(3, .int (bI true)), (0, .ref 84), (4, .int l4)]) (i := 3) rfl (by decide) rfl ?_
                                            refine wa_aload_n (i := 0) rfl rfl ?_
                                            refine wa_getr ck_12 fl_12_117 ly_84 rf_84_44 ?_
                                            refine wa_iload rfl ?_
                                            refine wa_iald ly_195 (by ((try simp only [vp_in_iff, Int32.lt_iff_toInt_lt, Int32.le_iff_toInt_le, ← Int32.toInt_inj, Int32.reduceToInt, n_1, n_2, n_8, Int32.toNatClampNeg, Int64.lt_iff_toInt_lt, Int64.le_iff_toInt_le, ← Int64.toInt_inj, Int64.reduceToInt, Int32.toInt_toInt64, lg_cmp_ge, lg_cmp_le, lg_cmp_gt, lg_cmp_lt, lg_cmp_eq, Bool.false_eq_true, Bool.true_eq_false, reduceCtorEq, false_iff, true_iff, iff_true, iff_false, and_true, true_and, and_false, false_and, reduceIte, ite_true, ite_false, eq_self] at *)) <;> omega) ?_
                                            refine wa_top (fun v133 hv133 => ?_)
                                            have rv133 := nok_next P_NOK (s := (a0).toNatClampNeg) (by ((try simp only [vp_in_iff, Int32.lt_iff_toInt_lt, Int32.le_iff_toInt_le, ← Int32.toInt_inj, Int32.reduceToInt, n_1, n_2, n_8, Int32.toNatClampNeg, Int64.lt_iff_toInt_lt, Int64.le_iff_toInt_le, ← Int64.toInt_inj, Int64.reduceToInt, Int32.toInt_toInt64, lg_cmp_ge, lg_cmp_le, lg_cmp_gt, lg_cmp_lt, lg_cmp_eq, Bool.false_eq_true, Bool.true_eq_false, reduceCtorEq, false_iff, true_iff, iff_true, iff_false, and_true, true_and, and_false, false_and, reduceIte, ite_true, ite_false, eq_self] at *)) <;> omega) (by ((try simp only [vp_in_iff, Int32.lt_iff_toInt_lt, Int32.le_iff_toInt_le, ← Int32.toInt_inj, Int32.reduceToInt, n_1, n_2, n_8, Int32.toNatClampNeg, Int64.lt_iff_toInt_lt, Int64.le_iff_toInt_le, ← Int64.toInt_inj, Int64.reduceToInt, Int32.toInt_toInt64, lg_cmp_ge, lg_cmp_le, lg_cmp_gt, lg_cmp_lt, lg_cmp_eq, Bool.false_eq_true, Bool.true_eq_false, reduceCtorEq, false_iff, true_iff, iff_true, iff_false, and_true, true_and, and_false, false_and, reduceIte, ite_true, ite_false, eq_self] at *)) <;> omega) (by ((try simp only [vp_in_iff, Int32.lt_iff_toInt_lt, Int32.le_iff_toInt_le, ← Int32.toInt_inj, Int32.reduceToInt, n_1, n_2, n_8, Int32.toNatClampNeg, Int64.lt_iff_toInt_lt, Int64.le_iff_toInt_le, ← Int64.toInt_inj, Int64.reduceToInt, Int32.toInt_toInt64, lg_cmp_ge, lg_cmp_le, lg_cmp_gt, lg_cmp_lt, lg_cmp_eq, Bool.false_eq_true, Bool.true_eq_false, reduceCtorEq, false_iff, true_iff, iff_true, iff_false, and_true, true_and, and_false, false_and, reduceIte, ite_true, ite_false, eq_self] at *)) <;> omega) hv133
                                            clear hv133
                                            refine wa_istoreD (lv' := [(4, .int v133), (3, .int (bI true)), (0, .ref 84)]) (by decide) rfl ?_
                                            refine wa_goto o_X12_isNode_269 (by decide) ?_
                                            refine wa_pick [2, 1, 0] rfl ?_
                                            exact ih129 _ (by ((try simp only [vp_in_iff, Int32.lt_iff_toInt_lt, Int32.le_iff_toInt_le, ← Int32.toInt_inj, Int32.reduceToInt, n_1, n_2, n_8, Int32.toNatClampNeg, Int64.lt_iff_toInt_lt, Int64.le_iff_toInt_le, ← Int64.toInt_inj, Int64.reduceToInt, Int32.toInt_toInt64, lg_cmp_ge, lg_cmp_le, lg_cmp_gt, lg_cmp_lt, lg_cmp_eq, Bool.false_eq_true, Bool.true_eq_false, reduceCtorEq, false_iff, true_iff, iff_true, iff_false, and_true, true_and, and_false, false_and, reduceIte, ite_true, ite_false, eq_self] at *)) <;> omega) _ _ ⟨(by ((try simp only [vp_in_iff, Int32.lt_iff_toInt_lt, Int32.le_iff_toInt_le, ← Int32.toInt_inj, Int32.reduceToInt, n_1, n_2, n_8, Int32.toNatClampNeg, Int64.lt_iff_toInt_lt, Int64.le_iff_toInt_le, ← Int64.toInt_inj, Int64.reduceToInt, Int32.toInt_toInt64, lg_cmp_ge, lg_cmp_le, lg_cmp_gt, lg_cmp_lt, lg_cmp_eq, Bool.false_eq_true, Bool.true_eq_false, reduceCtorEq, false_iff, true_iff, iff_true, iff_false, and_true, true_and, and_false, false_and, reduceIte, ite_true, ite_false, eq_self] at *)) <;> omega), trivial⟩ rfl
                                          · replace h132 := bI_f (b := l3) (rfl) h132
                                            refine wa_aload_n (i := 0) rfl rfl ?_
                                            refine wa_getr ck_12 fl_12_313 ly_84 rf_84_124 ?_
                                            refine wa_iload rfl ?_
                                            refine wa_zald ly_130 (by ((try simp only [vp_in_iff, Int32.lt_iff_toInt_lt, Int32.le_iff_toInt_le, ← Int32.toInt_inj, Int32.reduceToInt, n_1, n_2, n_8, Int32.toNatClampNeg, Int64.lt_iff_toInt_lt, Int64.le_iff_toInt_le, ← Int64.toInt_inj, Int64.reduceToInt, Int32.toInt_toInt64, lg_cmp_ge, lg_cmp_le, lg_cmp_gt, lg_cmp_lt, lg_cmp_eq, Bool.false_eq_true, Bool.true_eq_false, reduceCtorEq, false_iff, true_iff, iff_true, iff_false, and_true, true_and, and_false, false_and, reduceIte, ite_true, ite_false, eq_self] at *)) <;> omega) ?_
                                            refine wa_if_eq o_X12_isNode_293 (by decide) (fun h134 => ?_) (fun h134 => ?_)
                                            · replace h134 := bI_f (b := (gb σ 130 (l4).toNatClampNeg)) (rfl) h134
                                              refine wa_iconst (v := 0) (by decide) ?_
                                              refine wa_istore_nD (lv' := [(3, .int (bI false)), (0, .ref 84), (4, .int l4)]) (i := 3) rfl (by decide) rfl ?_
                                              refine wa_aload_n (i := 0) rfl rfl ?_
                                              refine wa_getr ck_12 fl_12_117 ly_84 rf_84_44 ?_
                                              refine wa_iload rfl ?_
                                              refine wa_iald ly_195 (by ((try simp only [vp_in_iff, Int32.lt_iff_toInt_lt, Int32.le_iff_toInt_le, ← Int32.toInt_inj, Int32.reduceToInt, n_1, n_2, n_8, Int32.toNatClampNeg, Int64.lt_iff_toInt_lt, Int64.le_iff_toInt_le, ← Int64.toInt_inj, Int64.reduceToInt, Int32.toInt_toInt64, lg_cmp_ge, lg_cmp_le, lg_cmp_gt, lg_cmp_lt, lg_cmp_eq, Bool.false_eq_true, Bool.true_eq_false, reduceCtorEq, false_iff, true_iff, iff_true, iff_false, and_true, true_and, and_false, false_and, reduceIte, ite_true, ite_false, eq_self] at *)) <;> omega) ?_
                                              refine wa_top (fun v135 hv135 => ?_)
                                              have rv135 := nok_next P_NOK (s := (a0).toNatClampNeg) (by ((try simp only [vp_in_iff, Int32.lt_iff_toInt_lt, Int32.le_iff_toInt_le, ← Int32.toInt_inj, Int32.reduceToInt, n_1, n_2, n_8, Int32.toNatClampNeg, Int64.lt_iff_toInt_lt, Int64.le_iff_toInt_le, ← Int64.toInt_inj, Int64.reduceToInt, Int32.toInt_toInt64, lg_cmp_ge, lg_cmp_le, lg_cmp_gt, lg_cmp_lt, lg_cmp_eq, Bool.false_eq_true, Bool.true_eq_false, reduceCtorEq, false_iff, true_iff, iff_true, iff_false, and_true, true_and, and_false, false_and, reduceIte, ite_true, ite_false, eq_self] at *)) <;> omega) (by ((try simp only [vp_in_iff, Int32.lt_iff_toInt_lt, Int32.le_iff_toInt_le, ← Int32.toInt_inj, Int32.reduceToInt, n_1, n_2, n_8, Int32.toNatClampNeg, Int64.lt_iff_toInt_lt, Int64.le_iff_toInt_le, ← Int64.toInt_inj, Int64.reduceToInt, Int32.toInt_toInt64, lg_cmp_ge, lg_cmp_le, lg_cmp_gt, lg_cmp_lt, lg_cmp_eq, Bool.false_eq_true, Bool.true_eq_false, reduceCtorEq, false_iff, true_iff, iff_true, iff_false, and_true, true_and, and_false, false_and, reduceIte, ite_true, ite_false, eq_self] at *)) <;> omega) (by ((try simp only [vp_in_iff, Int32.lt_iff_toInt_lt, Int32.le_iff_toInt_le, ← Int32.toInt_inj, Int32.reduceToInt, n_1, n_2, n_8, Int32.toNatClampNeg, Int64.lt_iff_toInt_lt, Int64.le_iff_toInt_le, ← Int64.toInt_inj, Int64.reduceToInt, Int32.toInt_toInt64, lg_cmp_ge, lg_cmp_le, lg_cmp_gt, lg_cmp_lt, lg_cmp_eq, Bool.false_eq_true, Bool.true_eq_false, reduceCtorEq, false_iff, true_iff, iff_true, iff_false, and_true, true_and, and_false, false_and, reduceIte, ite_true, ite_false, eq_self] at *)) <;> omega) hv135
                                              clear hv135
                                              refine wa_istoreD (lv' := [(4, .int v135), (3, .int (bI false)), (0, .ref 84)]) (by decide) rfl ?_
                                              refine wa_goto o_X12_isNode_269 (by decide) ?_
                                              refine wa_pick [2, 1, 0] rfl ?_
                                              exact ih129 _ (by ((try simp only [vp_in_iff, Int32.lt_iff_toInt_lt, Int32.le_iff_toInt_le, ← Int32.toInt_inj, Int32.reduceToInt, n_1, n_2, n_8, Int32.toNatClampNeg, Int64.lt_iff_toInt_lt, Int64.le_iff_toInt_le, ← Int64.toInt_inj, Int64.reduceToInt, Int32.toInt_toInt64, lg_cmp_ge, lg_cmp_le, lg_cmp_gt, lg_cmp_lt, lg_cmp_eq, Bool.false_eq_true, Bool.true_eq_false, reduceCtorEq, false_iff, true_iff, iff_true, iff_false, and_true, true_and, and_false, false_and, reduceIte, ite_true, ite_false, eq_self] at *)) <;> omega) _ _ ⟨(by ((try simp only [vp_in_iff, Int32.lt_iff_toInt_lt, Int32.le_iff_toInt_le, ← Int32.toInt_inj, Int32.reduceToInt, n_1, n_2, n_8, Int32.toNatClampNeg, Int64.lt_iff_toInt_lt, Int64.le_iff_toInt_le, ← Int64.toInt_inj, Int64.reduceToInt, Int32.toInt_toInt64, lg_cmp_ge, lg_cmp_le, lg_cmp_gt, lg_cmp_lt, lg_cmp_eq, Bool.false_eq_true, Bool.true_eq_false, reduceCtorEq, false_iff, true_iff, iff_true, iff_false, and_true, true_and, and_false, false_and, reduceIte, ite_true, ite_false, eq_self] at *)) <;> omega), trivial⟩ rfl
                                            · replace h134 := bI_t (b := (gb σ 130 (l4).toNatClampNeg)) (rfl) h134
                                              refine wa_iconst (v := 1) (by decide) ?_
                                              refine wa_goto o_X12_isNode_294 (by decide) ?_
                                              refine wa_istore_nD (lv' := [(3, .int (bI true)), (0, .ref 84), (4, .int l4)]) (i := 3) rfl (by decide) rfl ?_
                                              refine wa_aload_n (i := 0) rfl rfl ?_
                                              refine wa_getr ck_12 fl_12_117 ly_84 rf_84_44 ?_
                                              refine wa_iload rfl ?_
                                              refine wa_iald ly_195 (by ((try simp only [vp_in_iff, Int32.lt_iff_toInt_lt, Int32.le_iff_toInt_le, ← Int32.toInt_inj, Int32.reduceToInt, n_1, n_2, n_8, Int32.toNatClampNeg, Int64.lt_iff_toInt_lt, Int64.le_iff_toInt_le, ← Int64.toInt_inj, Int64.reduceToInt, Int32.toInt_toInt64, lg_cmp_ge, lg_cmp_le, lg_cmp_gt, lg_cmp_lt, lg_cmp_eq, Bool.false_eq_true, Bool.true_eq_false, reduceCtorEq, false_iff, true_iff, iff_true, iff_false, and_true, true_and, and_false, false_and, reduceIte, ite_true, ite_false, eq_self] at *)) <;> omega) ?_
                                              refine wa_top (fun v136 hv136 => ?_)
                                              have rv136 := nok_next P_NOK (s := (a0).toNatClampNeg) (by ((try simp only [vp_in_iff, Int32.lt_iff_toInt_lt, Int32.le_iff_toInt_le, ← Int32.toInt_inj, Int32.reduceToInt, n_1, n_2, n_8, Int32.toNatClampNeg, Int64.lt_iff_toInt_lt, Int64.le_iff_toInt_le, ← Int64.toInt_inj, Int64.reduceToInt, Int32.toInt_toInt64, lg_cmp_ge, lg_cmp_le, lg_cmp_gt, lg_cmp_lt, lg_cmp_eq, Bool.false_eq_true, Bool.true_eq_false, reduceCtorEq, false_iff, true_iff, iff_true, iff_false, and_true, true_and, and_false, false_and, reduceIte, ite_true, ite_false, eq_self] at *)) <;> omega) (by ((try simp only [vp_in_iff, Int32.lt_iff_toInt_lt, Int32.le_iff_toInt_le, ← Int32.toInt_inj, Int32.reduceToInt, n_1, n_2, n_8, Int32.toNatClampNeg, Int64.lt_iff_toInt_lt, Int64.le_iff_toInt_le, ← Int64.toInt_inj, Int64.reduceToInt, Int32.toInt_toInt64, lg_cmp_ge, lg_cmp_le, lg_cmp_gt, lg_cmp_lt, lg_cmp_eq, Bool.false_eq_true, Bool.true_eq_false, reduceCtorEq, false_iff, true_iff, iff_true, iff_false, and_true, true_and, and_false, false_and, reduceIte, ite_true, ite_false, eq_self] at *)) <;> omega) (by ((try simp only [vp_in_iff, Int32.lt_iff_toInt_lt, Int32.le_iff_toInt_le, ← Int32.toInt_inj, Int32.reduceToInt, n_1, n_2, n_8, Int32.toNatClampNeg, Int64.lt_iff_toInt_lt, Int64.le_iff_toInt_le, ← Int64.toInt_inj, Int64.reduceToInt, Int32.toInt_toInt64, lg_cmp_ge, lg_cmp_le, lg_cmp_gt, lg_cmp_lt, lg_cmp_eq, Bool.false_eq_true, Bool.true_eq_false, reduceCtorEq, false_iff, true_iff, iff_true, iff_false, and_true, true_and, and_false, false_and, reduceIte, ite_true, ite_false, eq_self] at *)) <;> omega) hv136
                                              clear hv136
                                              refine wa_istoreD (lv' := [(4, .int v136), (3, .int (bI true)), (0, .ref 84)]) (by decide) rfl ?_
                                              refine wa_goto o_X12_isNode_269 (by decide) ?_
                                              refine wa_pick [2, 1, 0] rfl ?_
                                              exact ih129 _ (by ((try simp only [vp_in_iff, Int32.lt_iff_toInt_lt, Int32.le_iff_toInt_le, ← Int32.toInt_inj, Int32.reduceToInt, n_1, n_2, n_8, Int32.toNatClampNeg, Int64.lt_iff_toInt_lt, Int64.le_iff_toInt_le, ← Int64.toInt_inj, Int64.reduceToInt, Int32.toInt_toInt64, lg_cmp_ge, lg_cmp_le, lg_cmp_gt, lg_cmp_lt, lg_cmp_eq, Bool.false_eq_true, Bool.true_eq_false, reduceCtorEq, false_iff, true_iff, iff_true, iff_false, and_true, true_and, and_false, false_and, reduceIte, ite_true, ite_false, eq_self] at *)) <;> omega) _ _ ⟨(by ((try simp only [vp_in_iff, Int32.lt_iff_toInt_lt, Int32.le_iff_toInt_le, ← Int32.toInt_inj, Int32.reduceToInt, n_1, n_2, n_8, Int32.toNatClampNeg, Int64.lt_iff_toInt_lt, Int64.le_iff_toInt_le, ← Int64.toInt_inj, Int64.reduceToInt, Int32.toInt_toInt64, lg_cmp_ge, lg_cmp_le, lg_cmp_gt, lg_cmp_lt, lg_cmp_eq, Bool.false_eq_true, Bool.true_eq_false, reduceCtorEq, false_iff, true_iff, iff_true, iff_false, and_true, true_and, and_false, false_and, reduceIte, ite_true, ite_false, eq_self] at *)) <;> omega), trivial⟩ rfl
                                    exact hi130 _ _ _ ⟨(by ((try simp only [vp_in_iff, Int32.lt_iff_toInt_lt, Int32.le_iff_toInt_le, ← Int32.toInt_inj, Int32.reduceToInt, n_1, n_2, n_8, Int32.toNatClampNeg, Int64.lt_iff_toInt_lt, Int64.le_iff_toInt_le, ← Int64.toInt_inj, Int64.reduceToInt, Int32.toInt_toInt64, lg_cmp_ge, lg_cmp_le, lg_cmp_gt, lg_cmp_lt, lg_cmp_eq, Bool.false_eq_true, Bool.true_eq_false, reduceCtorEq, false_iff, true_iff, iff_true, iff_false, and_true, true_and, and_false, false_and, reduceIte, ite_true, ite_false, eq_self] at *)) <;> omega), trivial⟩ rfl
                                  ·
                                    by_cases h137 : q2 = 20
                                    · refine wa_tIn (by rw [h137]; decide) (by rw [h137]; decide) (by rw [h137] <;> rfl) o_X12_isNode_120 (by decide) ?_
                                      refine wa_aload_n (i := 0) rfl rfl ?_
                                      refine wa_getr ck_12 fl_12_310 ly_84 rf_84_123 ?_
                                      refine wa_aload_n (i := 0) rfl rfl ?_
                                      refine wa_getr ck_12 fl_12_111 ly_84 rf_84_42 ?_
                                      refine wa_iload_n (i := 2) rfl rfl ?_
                                      refine wa_iald ly_197 (by ((try simp only [vp_in_iff, Int32.lt_iff_toInt_lt, Int32.le_iff_toInt_le, ← Int32.toInt_inj, Int32.reduceToInt, n_1, n_2, n_8, Int32.toNatClampNeg, Int64.lt_iff_toInt_lt, Int64.le_iff_toInt_le, ← Int64.toInt_inj, Int64.reduceToInt, Int32.toInt_toInt64, lg_cmp_ge, lg_cmp_le, lg_cmp_gt, lg_cmp_lt, lg_cmp_eq, Bool.false_eq_true, Bool.true_eq_false, reduceCtorEq, false_iff, true_iff, iff_true, iff_false, and_true, true_and, and_false, false_and, reduceIte, ite_true, ite_false, eq_self] at *)) <;> omega) ?_
                                      refine wa_top (fun v138 hv138 => ?_)
                                      have qv138 := hv138
                                      clear hv138
                                      refine wa_zald ly_131 (by ((try simp only [vp_in_iff, Int32.lt_iff_toInt_lt, Int32.le_iff_toInt_le, ← Int32.toInt_inj, Int32.reduceToInt, n_1, n_2, n_8, Int32.toNatClampNeg, Int64.lt_iff_toInt_lt, Int64.le_iff_toInt_le, ← Int64.toInt_inj, Int64.reduceToInt, Int32.toInt_toInt64, lg_cmp_ge, lg_cmp_le, lg_cmp_gt, lg_cmp_lt, lg_cmp_eq, Bool.false_eq_true, Bool.true_eq_false, reduceCtorEq, false_iff, true_iff, iff_true, iff_false, and_true, true_and, and_false, false_and, reduceIte, ite_true, ite_false, eq_self] at *)) <;> omega) ?_
                                      refine wa_zreturn (gb σ 131 (v138).toNatClampNeg) (rfl) rfl rfl ?_
                                      exact ⟨_, rfl, rfl, trivial⟩
                                    ·
                                      by_cases h139 : q2 = 21
                                      · refine wa_tIn (by rw [h139]; decide) (by rw [h139]; decide) (by rw [h139] <;> rfl) o_X12_isNode_132 (by decide) ?_
                                        refine wa_aload_n (i := 0) rfl rfl ?_
                                        refine wa_iload_n (i := 1) rfl rfl ?_
                                        refine wa_aload_n (i := 0) rfl rfl ?_
                                        refine wa_getr ck_12 fl_12_111 ly_84 rf_84_42 ?_
                                        refine wa_iload_n (i := 2) rfl rfl ?_
                                        refine wa_iald ly_197 (by ((try simp only [vp_in_iff, Int32.lt_iff_toInt_lt, Int32.le_iff_toInt_le, ← Int32.toInt_inj, Int32.reduceToInt, n_1, n_2, n_8, Int32.toNatClampNeg, Int64.lt_iff_toInt_lt, Int64.le_iff_toInt_le, ← Int64.toInt_inj, Int64.reduceToInt, Int32.toInt_toInt64, lg_cmp_ge, lg_cmp_le, lg_cmp_gt, lg_cmp_lt, lg_cmp_eq, Bool.false_eq_true, Bool.true_eq_false, reduceCtorEq, false_iff, true_iff, iff_true, iff_false, and_true, true_and, and_false, false_and, reduceIte, ite_true, ite_false, eq_self] at *)) <;> omega) ?_
                                        refine wa_top (fun v140 hv140 => ?_)
                                        have qv140 := hv140
                                        clear hv140
                                        refine wa_Vi (d9 := d - 1) [.int _, .int _] [] (sp_X12_isLeaf G (d := d - 1) (by omega) σ _ _ (by ((try simp only [vp_in_iff, Int32.lt_iff_toInt_lt, Int32.le_iff_toInt_le, ← Int32.toInt_inj, Int32.reduceToInt, n_1, n_2, n_8, Int32.toNatClampNeg, Int64.lt_iff_toInt_lt, Int64.le_iff_toInt_le, ← Int64.toInt_inj, Int64.reduceToInt, Int32.toInt_toInt64, lg_cmp_ge, lg_cmp_le, lg_cmp_gt, lg_cmp_lt, lg_cmp_eq, Bool.false_eq_true, Bool.true_eq_false, reduceCtorEq, false_iff, true_iff, iff_true, iff_false, and_true, true_and, and_false, false_and, reduceIte, ite_true, ite_false, eq_self] at *)) <;> omega) (by assumption) (by ((try simp only [vp_in_iff, Int32.lt_iff_toInt_lt, Int32.le_iff_toInt_le, ← Int32.toInt_inj, Int32.reduceToInt, n_1, n_2, n_8, Int32.toNatClampNeg, Int64.lt_iff_toInt_lt, Int64.le_iff_toInt_le, ← Int64.toInt_inj, Int64.reduceToInt, Int32.toInt_toInt64, lg_cmp_ge, lg_cmp_le, lg_cmp_gt, lg_cmp_lt, lg_cmp_eq, Bool.false_eq_true, Bool.true_eq_false, reduceCtorEq, false_iff, true_iff, iff_true, iff_false, and_true, true_and, and_false, false_and, reduceIte, ite_true, ite_false, eq_self] at *)) <;> omega) A_134 A_155 A_156 A_183 A_184 A_185 P_WKS P_CLI) (rfl) rfl rfl (zr (by omega)) mk_X12_isLeaf ly_84 ml_12_943 (Nat.le_of_ble_eq_true rfl) (fun x142 s141 hs141 => ?_)
                                        obtain ⟨bx142, ex142, zs141, -⟩ := pB hs141
                                        subst ex142
                                        subst zs141
                                        refine wa_zreturn bx142 (rfl) rfl rfl ?_
                                        exact ⟨_, rfl, rfl, trivial⟩
                                      ·
                                        refine wa_tOut (by (try simp only [vp_in_iff, Int32.lt_iff_toInt_lt, Int32.le_iff_toInt_le, ← Int32.toInt_inj, Int32.reduceToInt, n_1, n_2, n_8, Int32.toNatClampNeg, Int64.lt_iff_toInt_lt, Int64.le_iff_toInt_le, ← Int64.toInt_inj, Int64.reduceToInt, Int32.toInt_toInt64, lg_cmp_ge, lg_cmp_le, lg_cmp_gt, lg_cmp_lt, lg_cmp_eq] at *) <;> omega) o_X12_isNode_259 (by decide) ?_
                                        refine wa_iconst (v := 0) (by decide) ?_
                                        refine wa_istore_nD (lv' := [(3, .int (bI false)), (0, .ref 84), (1, .int a0), (2, .int a1)]) (i := 3) rfl (by decide) rfl ?_
                                        refine wa_aload_n (i := 0) rfl rfl ?_
                                        refine wa_getr ck_12 fl_12_111 ly_84 rf_84_42 ?_
                                        refine wa_iload_n (i := 2) rfl rfl ?_
                                        refine wa_iald ly_197 (by ((try simp only [vp_in_iff, Int32.lt_iff_toInt_lt, Int32.le_iff_toInt_le, ← Int32.toInt_inj, Int32.reduceToInt, n_1, n_2, n_8, Int32.toNatClampNeg, Int64.lt_iff_toInt_lt, Int64.le_iff_toInt_le, ← Int64.toInt_inj, Int64.reduceToInt, Int32.toInt_toInt64, lg_cmp_ge, lg_cmp_le, lg_cmp_gt, lg_cmp_lt, lg_cmp_eq, Bool.false_eq_true, Bool.true_eq_false, reduceCtorEq, false_iff, true_iff, iff_true, iff_false, and_true, true_and, and_false, false_and, reduceIte, ite_true, ite_false, eq_self] at *)) <;> omega) ?_
                                        refine wa_top (fun v143 hv143 => ?_)
                                        have qv143 := hv143
                                        clear hv143
                                        refine wa_istoreD (lv' := [(4, .int v143), (3, .int (bI false)), (0, .ref 84), (1, .int a0), (2, .int a1)]) (by decide) rfl ?_
                                        refine wa_pick [2, 1, 0] rfl ?_
                                        have hi145 : ∀ (n9_269 : Nat) (l3 : Bool) (l4 : Int32), ((l4.toInt = -1 ∨ (250 * a0.toInt ≤ l4.toInt ∧ l4.toInt < 250 * a0.toInt + (gi σ 194 (a0).toNatClampNeg).toInt)) ∧ (True)) → (6501 - (l4.toInt + 6502) % 6502).toNat = n9_269 → WA G M_X12_isNode (ZM G M_X12_isNode d (fun r σ' => ∃ x : Bool, r = some (.int (bI x)) ∧ σ = σ' ∧ True)) B_X12_isNode_269 [(0, .ref 84), (3, .int (bI l3)), (4, .int l4)] [] σ := by
                                          intro n9_269
                                          induction n9_269 using Nat.strongRecOn with
                                          | _ n9_269 ih144 =>
                                            intro l3 l4  i9 m9_269
                                            obtain ⟨jhi145_0, -⟩ := i9
                                            have ul4 := Int32.toInt_lt l4
                                            have wl4 := Int32.le_toInt l4
                                            refine wa_iload rfl ?_
                                            refine wa_iconst (v := (-1)) (by decide) ?_
                                            refine wa_icmp_eq o_X12_isNode_307 (by decide) (fun h146 => ?_) (fun h146 => ?_)
                                            · refine wa_iload_n (i := 3) rfl rfl ?_
                                              refine wa_zreturn l3 (rfl) rfl rfl ?_
                                              exact ⟨_, rfl, rfl, trivial⟩
                                            · refine wa_iload_n (i := 3) rfl rfl ?_
                                              refine wa_if_ne o_X12_isNode_289 (by decide) (fun h147 => ?_) (fun h147 => ?_)
                                              · replace h147 := bI_t (b := l3) (rfl) h147
                                                refine wa_iconst (v := 1) (by decide) ?_
                                                refine wa_goto o_X12_isNode_294 (by decide) ?_
                                                refine wa_istore_nD (lv' := [(3, .int (bI true)), (0, .ref 84), (4, .int l4)]) (i := 3) rfl (by decide) rfl ?_
                                                refine wa_aload_n (i := 0) rfl rfl ?_
                                                refine wa_getr ck_12 fl_12_117 ly_84 rf_84_44 ?_
                                                refine wa_iload rfl ?_
                                                refine wa_iald ly_195 (by ((try simp only [vp_in_iff, Int32.lt_iff_toInt_lt, Int32.le_iff_toInt_le, ← Int32.toInt_inj, Int32.reduceToInt, n_1, n_2, n_8, Int32.toNatClampNeg, Int64.lt_iff_toInt_lt, Int64.le_iff_toInt_le, ← Int64.toInt_inj, Int64.reduceToInt, Int32.toInt_toInt64, lg_cmp_ge, lg_cmp_le, lg_cmp_gt, lg_cmp_lt, lg_cmp_eq, Bool.false_eq_true, Bool.true_eq_false, reduceCtorEq, false_iff, true_iff, iff_true, iff_false, and_true, true_and, and_false, false_and, reduceIte, ite_true, ite_false, eq_self] at *)) <;> omega) ?_
                                                refine wa_top (fun v148 hv148 => ?_)
                                                have rv148 := nok_next P_NOK (s := (a0).toNatClampNeg) (by ((try simp only [vp_in_iff, Int32.lt_iff_toInt_lt, Int32.le_iff_toInt_le, ← Int32.toInt_inj, Int32.reduceToInt, n_1, n_2, n_8, Int32.toNatClampNeg, Int64.lt_iff_toInt_lt, Int64.le_iff_toInt_le, ← Int64.toInt_inj, Int64.reduceToInt, Int32.toInt_toInt64, lg_cmp_ge, lg_cmp_le, lg_cmp_gt, lg_cmp_lt, lg_cmp_eq, Bool.false_eq_true, Bool.true_eq_false, reduceCtorEq, false_iff, true_iff, iff_true, iff_false, and_true, true_and, and_false, false_and, reduceIte, ite_true, ite_false, eq_self] at *)) <;> omega) (by ((try simp only [vp_in_iff, Int32.lt_iff_toInt_lt, Int32.le_iff_toInt_le, ← Int32.toInt_inj, Int32.reduceToInt, n_1, n_2, n_8, Int32.toNatClampNeg, Int64.lt_iff_toInt_lt, Int64.le_iff_toInt_le, ← Int64.toInt_inj, Int64.reduceToInt, Int32.toInt_toInt64, lg_cmp_ge, lg_cmp_le, lg_cmp_gt, lg_cmp_lt, lg_cmp_eq, Bool.false_eq_true, Bool.true_eq_false, reduceCtorEq, false_iff, true_iff, iff_true, iff_false, and_true, true_and, and_false, false_and, reduceIte, ite_true, ite_false, eq_self] at *)) <;> omega) (by ((try simp only [vp_in_iff, Int32.lt_iff_toInt_lt, Int32.le_iff_toInt_le, ← Int32.toInt_inj, Int32.reduceToInt, n_1, n_2, n_8, Int32.toNatClampNeg, Int64.lt_iff_toInt_lt, Int64.le_iff_toInt_le, ← Int64.toInt_inj, Int64.reduceToInt, Int32.toInt_toInt64, lg_cmp_ge, lg_cmp_le, lg_cmp_gt, lg_cmp_lt, lg_cmp_eq, Bool.false_eq_true, Bool.true_eq_false, reduceCtorEq, false_iff, true_iff, iff_true, iff_false, and_true, true_and, and_false, false_and, reduceIte, ite_true, ite_false, eq_self] at *)) <;> omega) hv148
                                                clear hv148
                                                refine wa_istoreD (lv' := [(4, .int v148), (3, .int (bI true)), (0, .ref 84)]) (by decide) rfl ?_
                                                refine wa_goto o_X12_isNode_269 (by decide) ?_
                                                refine wa_pick [2, 1, 0] rfl ?_
                                                exact ih144 _ (by ((try simp only [vp_in_iff, Int32.lt_iff_toInt_lt, Int32.le_iff_toInt_le, ← Int32.toInt_inj, Int32.reduceToInt, n_1, n_2, n_8, Int32.toNatClampNeg, Int64.lt_iff_toInt_lt, Int64.le_iff_toInt_le, ← Int64.toInt_inj, Int64.reduceToInt, Int32.toInt_toInt64, lg_cmp_ge, lg_cmp_le, lg_cmp_gt, lg_cmp_lt, lg_cmp_eq, Bool.false_eq_true, Bool.true_eq_false, reduceCtorEq, false_iff, true_iff, iff_true, iff_false, and_true, true_and, and_false, false_and, reduceIte, ite_true, ite_false, eq_self] at *)) <;> omega) _ _ ⟨(by ((try simp only [vp_in_iff, Int32.lt_iff_toInt_lt, Int32.le_iff_toInt_le, ← Int32.toInt_inj, Int32.reduceToInt, n_1, n_2, n_8, Int32.toNatClampNeg, Int64.lt_iff_toInt_lt, Int64.le_iff_toInt_le, ← Int64.toInt_inj, Int64.reduceToInt, Int32.toInt_toInt64, lg_cmp_ge, lg_cmp_le, lg_cmp_gt, lg_cmp_lt, lg_cmp_eq, Bool.false_eq_true, Bool.true_eq_false, reduceCtorEq, false_iff, true_iff, iff_true, iff_false, and_true, true_and, and_false, false_and, reduceIte, ite_true, ite_false, eq_self] at *)) <;> omega), trivial⟩ rfl
                                              · replace h147 := bI_f (b := l3) (rfl) h147
                                                refine wa_aload_n (i := 0) rfl rfl ?_
                                                refine wa_getr ck_12 fl_12_313 ly_84 rf_84_124 ?_
                                                refine wa_iload rfl ?_
                                                refine wa_zald ly_130 (by ((try simp only [vp_in_iff, Int32.lt_iff_toInt_lt, Int32.le_iff_toInt_le, ← Int32.toInt_inj, Int32.reduceToInt, n_1, n_2, n_8, Int32.toNatClampNeg, Int64.lt_iff_toInt_lt, Int64.le_iff_toInt_le, ← Int64.toInt_inj, Int64.reduceToInt, Int32.toInt_toInt64, lg_cmp_ge, lg_cmp_le, lg_cmp_gt, lg_cmp_lt, lg_cmp_eq, Bool.false_eq_true, Bool.true_eq_false, reduceCtorEq, false_iff, true_iff, iff_true, iff_false, and_true, true_and, and_false, false_and, reduceIte, ite_true, ite_false, eq_self] at *)) <;> omega) ?_
                                                refine wa_if_eq o_X12_isNode_293 (by decide) (fun h149 => ?_) (fun h149 => ?_)
                                                · replace h149 := bI_f (b := (gb σ 130 (l4).toNatClampNeg)) (rfl) h149
                                                  refine wa_iconst (v := 0) (by decide) ?_
                                                  refine wa_istore_nD (lv' := [(3, .int (bI false)), (0, .ref 84), (4, .int l4)]) (i := 3) rfl (by decide) rfl ?_
                                                  refine wa_aload_n (i := 0) rfl rfl ?_
                                                  refine wa_getr ck_12 fl_12_117 ly_84 rf_84_44 ?_
                                                  refine wa_iload rfl ?_
                                                  refine wa_iald ly_195 (by ((try simp only [vp_in_iff, Int32.lt_iff_toInt_lt, Int32.le_iff_toInt_le, ← Int32.toInt_inj, Int32.reduceToInt, n_1, n_2, n_8, Int32.toNatClampNeg, Int64.lt_iff_toInt_lt, Int64.le_iff_toInt_le, ← Int64.toInt_inj, Int64.reduceToInt, Int32.toInt_toInt64, lg_cmp_ge, lg_cmp_le, lg_cmp_gt, lg_cmp_lt, lg_cmp_eq, Bool.false_eq_true, Bool.true_eq_false, reduceCtorEq, false_iff, true_iff, iff_true, iff_false, and_true, true_and, and_false, false_and, reduceIte, ite_true, ite_false, eq_self] at *)) <;> omega) ?_
                                                  refine wa_top (fun v150 hv150 => ?_)
                                                  have rv150 := nok_next P_NOK (s := (a0).toNatClampNeg) (by ((try simp only [vp_in_iff, Int32.lt_iff_toInt_lt, Int32.le_iff_toInt_le, ← Int32.toInt_inj, Int32.reduceToInt, n_1, n_2, n_8, Int32.toNatClampNeg, Int64.lt_iff_toInt_lt, Int64.le_iff_toInt_le, ← Int64.toInt_inj, Int64.reduceToInt, Int32.toInt_toInt64, lg_cmp_ge, lg_cmp_le, lg_cmp_gt, lg_cmp_lt, lg_cmp_eq, Bool.false_eq_true, Bool.true_eq_false, reduceCtorEq, false_iff, true_iff, iff_true, iff_false, and_true, true_and, and_false, false_and, reduceIte, ite_true, ite_false, eq_self] at *)) <;> omega) (by ((try simp only [vp_in_iff, Int32.lt_iff_toInt_lt, Int32.le_iff_toInt_le, ← Int32.toInt_inj, Int32.reduceToInt, n_1, n_2, n_8, Int32.toNatClampNeg, Int64.lt_iff_toInt_lt, Int64.le_iff_toInt_le, ← Int64.toInt_inj, Int64.reduceToInt, Int32.toInt_toInt64, lg_cmp_ge, lg_cmp_le, lg_cmp_gt, lg_cmp_lt, lg_cmp_eq, Bool.false_eq_true, Bool.true_eq_false, reduceCtorEq, false_iff, true_iff, iff_true, iff_false, and_true, true_and, and_false, false_and, reduceIte, ite_true, ite_false, eq_self] at *)) <;> omega) (by ((try simp only [vp_in_iff, Int32.lt_iff_toInt_lt, Int32.le_iff_toInt_le, ← Int32.toInt_inj, Int32.reduceToInt, n_1, n_2, n_8, Int32.toNatClampNeg, Int64.lt_iff_toInt_lt, Int64.le_iff_toInt_le, ← Int64.toInt_inj, Int64.reduceToInt, Int32.toInt_toInt64, lg_cmp_ge, lg_cmp_le, lg_cmp_gt, lg_cmp_lt, lg_cmp_eq, Bool.false_eq_true, Bool.true_eq_false, reduceCtorEq, false_iff, true_iff, iff_true, iff_false, and_true, true_and, and_false, false_and, reduceIte, ite_true, ite_false, eq_self] at *)) <;> omega) hv150
                                                  clear hv150
                                                  refine wa_istoreD (lv' := [(4, .int v150), (3, .int (bI false)), (0, .ref 84)]) (by decide) rfl ?_
                                                  refine wa_goto o_X12_isNode_269 (by decide) ?_
                                                  refine wa_pick [2, 1, 0] rfl ?_
                                                  exact ih144 _ (by ((try simp only [vp_in_iff, Int32.lt_iff_toInt_lt, Int32.le_iff_toInt_le, ← Int32.toInt_inj, Int32.reduceToInt, n_1, n_2, n_8, Int32.toNatClampNeg, Int64.lt_iff_toInt_lt, Int64.le_iff_toInt_le, ← Int64.toInt_inj, Int64.reduceToInt, Int32.toInt_toInt64, lg_cmp_ge, lg_cmp_le, lg_cmp_gt, lg_cmp_lt, lg_cmp_eq, Bool.false_eq_true, Bool.true_eq_false, reduceCtorEq, false_iff, true_iff, iff_true, iff_false, and_true, true_and, and_false, false_and, reduceIte, ite_true, ite_false, eq_self] at *)) <;> omega) _ _ ⟨(by ((try simp only [vp_in_iff, Int32.lt_iff_toInt_lt, Int32.le_iff_toInt_le, ← Int32.toInt_inj, Int32.reduceToInt, n_1, n_2, n_8, Int32.toNatClampNeg, Int64.lt_iff_toInt_lt, Int64.le_iff_toInt_le, ← Int64.toInt_inj, Int64.reduceToInt, Int32.toInt_toInt64, lg_cmp_ge, lg_cmp_le, lg_cmp_gt, lg_cmp_lt, lg_cmp_eq, Bool.false_eq_true, Bool.true_eq_false, reduceCtorEq, false_iff, true_iff, iff_true, iff_false, and_true, true_and, and_false, false_and, reduceIte, ite_true, ite_false, eq_self] at *)) <;> omega), trivial⟩ rfl
                                                · replace h149 := bI_t (b := (gb σ 130 (l4).toNatClampNeg)) (rfl) h149
                                                  refine wa_iconst (v := 1) (by decide) ?_
                                                  refine wa_goto o_X12_isNode_294 (by decide) ?_
                                                  refine wa_istore_nD (lv' := [(3, .int (bI true)), (0, .ref 84), (4, .int l4)]) (i := 3) rfl (by decide) rfl ?_
                                                  refine wa_aload_n (i := 0) rfl rfl ?_
                                                  refine wa_getr ck_12 fl_12_117 ly_84 rf_84_44 ?_
                                                  refine wa_iload rfl ?_
                                                  refine wa_iald ly_195 (by ((try simp only [vp_in_iff, Int32.lt_iff_toInt_lt, Int32.le_iff_toInt_le, ← Int32.toInt_inj, Int32.reduceToInt, n_1, n_2, n_8, Int32.toNatClampNeg, Int64.lt_iff_toInt_lt, Int64.le_iff_toInt_le, ← Int64.toInt_inj, Int64.reduceToInt, Int32.toInt_toInt64, lg_cmp_ge, lg_cmp_le, lg_cmp_gt, lg_cmp_lt, lg_cmp_eq, Bool.false_eq_true, Bool.true_eq_false, reduceCtorEq, false_iff, true_iff, iff_true, iff_false, and_true, true_and, and_false, false_and, reduceIte, ite_true, ite_false, eq_self] at *)) <;> omega) ?_
                                                  refine wa_top (fun v151 hv151 => ?_)
                                                  have rv151 := nok_next P_NOK (s := (a0).toNatClampNeg) (by ((try simp only [vp_in_iff, Int32.lt_iff_toInt_lt, Int32.le_iff_toInt_le, ← Int32.toInt_inj, Int32.reduceToInt, n_1, n_2, n_8, Int32.toNatClampNeg, Int64.lt_iff_toInt_lt, Int64.le_iff_toInt_le, ← Int64.toInt_inj, Int64.reduceToInt, Int32.toInt_toInt64, lg_cmp_ge, lg_cmp_le, lg_cmp_gt, lg_cmp_lt, lg_cmp_eq, Bool.false_eq_true, Bool.true_eq_false, reduceCtorEq, false_iff, true_iff, iff_true, iff_false, and_true, true_and, and_false, false_and, reduceIte, ite_true, ite_false, eq_self] at *)) <;> omega) (by ((try simp only [vp_in_iff, Int32.lt_iff_toInt_lt, Int32.le_iff_toInt_le, ← Int32.toInt_inj, Int32.reduceToInt, n_1, n_2, n_8, Int32.toNatClampNeg, Int64.lt_iff_toInt_lt, Int64.le_iff_toInt_le, ← Int64.toInt_inj, Int64.reduceToInt, Int32.toInt_toInt64, lg_cmp_ge, lg_cmp_le, lg_cmp_gt, lg_cmp_lt, lg_cmp_eq, Bool.false_eq_true, Bool.true_eq_false, reduceCtorEq, false_iff, true_iff, iff_true, iff_false, and_true, true_and, and_false, false_and, reduceIte, ite_true, ite_false, eq_self] at *)) <;> omega) (by ((try simp only [vp_in_iff, Int32.lt_iff_toInt_lt, Int32.le_iff_toInt_le, ← Int32.toInt_inj, Int32.reduceToInt, n_1, n_2, n_8, Int32.toNatClampNeg, Int64.lt_iff_toInt_lt, Int64.le_iff_toInt_le, ← Int64.toInt_inj, Int64.reduceToInt, Int32.toInt_toInt64, lg_cmp_ge, lg_cmp_le, lg_cmp_gt, lg_cmp_lt, lg_cmp_eq, Bool.false_eq_true, Bool.true_eq_false, reduceCtorEq, false_iff, true_iff, iff_true, iff_false, and_true, true_and, and_false, false_and, reduceIte, ite_true, ite_false, eq_self] at *)) <;> omega) hv151
                                                  clear hv151
                                                  refine wa_istoreD (lv' := [(4, .int v151), (3, .int (bI true)), (0, .ref 84)]) (by decide) rfl ?_
                                                  refine wa_goto o_X12_isNode_269 (by decide) ?_
                                                  refine wa_pick [2, 1, 0] rfl ?_
                                                  exact ih144 _ (by ((try simp only [vp_in_iff, Int32.lt_iff_toInt_lt, Int32.le_iff_toInt_le, ← Int32.toInt_inj, Int32.reduceToInt, n_1, n_2, n_8, Int32.toNatClampNeg, Int64.lt_iff_toInt_lt, Int64.le_iff_toInt_le, ← Int64.toInt_inj, Int64.reduceToInt, Int32.toInt_toInt64, lg_cmp_ge, lg_cmp_le, lg_cmp_gt, lg_cmp_lt, lg_cmp_eq, Bool.false_eq_true, Bool.true_eq_false, reduceCtorEq, false_iff, true_iff, iff_true, iff_false, and_true, true_and, and_false, false_and, reduceIte, ite_true, ite_false, eq_self] at *)) <;> omega) _ _ ⟨(by ((try simp only [vp_in_iff, Int32.lt_iff_toInt_lt, Int32.le_iff_toInt_le, ← Int32.toInt_inj, Int32.reduceToInt, n_1, n_2, n_8, Int32.toNatClampNeg, Int64.lt_iff_toInt_lt, Int64.le_iff_toInt_le, ← Int64.toInt_inj, Int64.reduceToInt, Int32.toInt_toInt64, lg_cmp_ge, lg_cmp_le, lg_cmp_gt, lg_cmp_lt, lg_cmp_eq, Bool.false_eq_true, Bool.true_eq_false, reduceCtorEq, false_iff, true_iff, iff_true, iff_false, and_true, true_and, and_false, false_and, reduceIte, ite_true, ite_false, eq_self] at *)) <;> omega), trivial⟩ rfl
                                        exact hi145 _ _ _ ⟨(by ((try simp only [vp_in_iff, Int32.lt_iff_toInt_lt, Int32.le_iff_toInt_le, ← Int32.toInt_inj, Int32.reduceToInt, n_1, n_2, n_8, Int32.toNatClampNeg, Int64.lt_iff_toInt_lt, Int64.le_iff_toInt_le, ← Int64.toInt_inj, Int64.reduceToInt, Int32.toInt_toInt64, lg_cmp_ge, lg_cmp_le, lg_cmp_gt, lg_cmp_lt, lg_cmp_eq, Bool.false_eq_true, Bool.true_eq_false, reduceCtorEq, false_iff, true_iff, iff_true, iff_false, and_true, true_and, and_false, false_and, reduceIte, ite_true, ite_false, eq_self] at *)) <;> omega), trivial⟩ rfl
theorem pad_31a : True := trivial
