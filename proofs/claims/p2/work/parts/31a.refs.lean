set_option maxHeartbeats 4000000 in
theorem sp_X12_feed (G : kG9) {d : Nat} (hd : 0 ≤ d) (σ : St) (a0 : Int32) (a1 : Int32) (a2 : Int32) (a3 : Int32) (a4 : Int32) (r1 : 0 ≤ (gi σ 84 2).toInt ∧ (gi σ 84 2).toInt ≤ 2000) : Ct G M_X12_feed d [.ref 84, .int a0, .int a1, .int a2, .int a3, .int a4] σ (fun r σ' => ∃ x : Int32, r = some (.int x) ∧ Fm [208] [0, 2] σ σ' ∧ (0 ≤ (gi σ' 84 2).toInt ∧ (gi σ' 84 2).toInt ≤ 2000) ∧ True) := by
  refine wa_start (by decide) rfl (Nat.le_of_ble_eq_true rfl) (lv := [(0, .ref 84), (1, .int a0), (2, .int a1), (3, .int a2), (4, .int a3), (5, .int a4)]) rfl o_X12_feed_0 rfl ?_
  have ua0 := Int32.toInt_lt a0
  have wa0 := Int32.le_toInt a0
  have ua1 := Int32.toInt_lt a1
  have wa1 := Int32.le_toInt a1
  have ua2 := Int32.toInt_lt a2
  have wa2 := Int32.le_toInt a2
  have ua3 := Int32.toInt_lt a3
  have wa3 := Int32.le_toInt a3
  have ua4 := Int32.toInt_lt a4
  have wa4 := Int32.le_toInt a4
  refine wa_aload_n (i := 0) rfl rfl ?_
  refine wa_aload_n (i := 0) rfl rfl ?_
  refine wa_geti ck_12 fl_12_485 ly_84 ?_
  refine wa_bipush (v := 20) (by decide) ?_
  refine wa_iadd ?_
  refine wa_top (fun v1 hv1 => ?_)
  have tv1 := i_addT hv1
  clear hv1
  refine wa_sipush (v := 2000) (by decide) ?_
  refine wa_icmp_le o_X12_feed_18 (by decide) (fun h2 => ?_) (fun h2 => ?_)
  · refine wa_iconst (v := 0) (by decide) ?_
    refine wa_puti ck_12 fl_12_3 ly_84 (fun s3 hs3 => ?_)
    have Fs3 : Fm [208] [0, 2] σ s3 := by rw [hs3]; exact Fm.si (Fm.rf [208] [0, 2] σ) rfl
    refine wa_aload_n (i := 0) rfl rfl ?_
    refine wa_geti ck_12 fl_12_3 ly_84 ?_
    refine wa_rw (nxe_gi_si hs3) ?_
    refine wa_if_le o_X12_feed_31 (by decide) (fun h4 => ?_) (fun h4 => ?_)
    · refine wa_iconst (v := 0) (by decide) ?_
      refine wa_istoreD (lv' := [(6, .int 0), (0, .ref 84), (1, .int a0), (2, .int a1), (3, .int a2), (4, .int a3), (5, .int a4)]) (by decide) rfl ?_
      refine wa_pick [1, 2, 3, 4, 5, 6, 0] rfl ?_
      have hi7 : ∀ (n9_34 : Nat) (l6 : Int32) (s5 : St), ((Fm [208] [0, 2] σ s5) ∧ (gi s5 84 0 = (0 : Int32)) ∧ (0 ≤ l6.toInt) ∧ ((gi s5 84 2).toInt ≤ 1980 + l6.toInt) ∧ (0 ≤ (gi s5 84 2).toInt ∧ (gi s5 84 2).toInt ≤ 2000) ∧ (True)) → (2147483647 - l6.toInt).toNat = n9_34 → WA G M_X12_feed (ZM G M_X12_feed d (fun r σ' => ∃ x : Int32, r = some (.int x) ∧ Fm [208] [0, 2] σ σ' ∧ (0 ≤ (gi σ' 84 2).toInt ∧ (gi σ' 84 2).toInt ≤ 2000) ∧ True)) B_X12_feed_34 [(0, .ref 84), (1, .int a0), (2, .int a1), (3, .int a2), (4, .int a3), (5, .int a4), (6, .int l6)] [] s5 := by
        intro n9_34
        induction n9_34 using Nat.strongRecOn with
        | _ n9_34 ih6 =>
          intro l6 s5 i9 m9_34
          obtain ⟨Fs5, khi7_0, jhi7_0, jhi7_1, jhi7_2, -⟩ := i9
          have ul6 := Int32.toInt_lt l6
          have wl6 := Int32.le_toInt l6
          refine wa_iload rfl ?_
          refine wa_bipush (v := 20) (by decide) ?_
          refine wa_icmp_ge o_X12_feed_128 (by decide) (fun h8 => ?_) (fun h8 => ?_)
          · refine wa_aload_n (i := 0) rfl rfl ?_
            refine wa_geti ck_12 fl_12_485 ly_84 ?_
            refine wa_ireturn rfl rfl ?_
            exact ⟨_, rfl, Fs5, (by first | assumption | (((try simp only [vp_in_iff, Int32.lt_iff_toInt_lt, Int32.le_iff_toInt_le, ← Int32.toInt_inj, Int32.reduceToInt, n_1, n_2, n_8, Int32.toNatClampNeg, Int64.lt_iff_toInt_lt, Int64.le_iff_toInt_le, ← Int64.toInt_inj, Int64.reduceToInt, Int32.toInt_toInt64, lg_cmp_ge, lg_cmp_le, lg_cmp_gt, lg_cmp_lt, lg_cmp_eq, Bool.false_eq_true, Bool.true_eq_false, reduceCtorEq, false_iff, true_iff, iff_true, iff_false, and_true, true_and, and_false, false_and, reduceIte, ite_true, ite_false, eq_self] at *)) <;> omega)), trivial⟩
          · have mh8 := nle_mx h8
            refine wa_iload rfl ?_
            refine wa_iconst (v := 4) (by decide) ?_
            refine wa_icmp_ge o_X12_feed_51 (by decide) (fun h9 => ?_) (fun h9 => ?_)
            · refine wa_iload rfl ?_
              refine wa_bipush (v := 8) (by decide) ?_
              refine wa_icmp_ge o_X12_feed_62 (by decide) (fun h10 => ?_) (fun h10 => ?_)
              · refine wa_iload rfl ?_
                refine wa_bipush (v := 12) (by decide) ?_
                refine wa_icmp_ge o_X12_feed_73 (by decide) (fun h11 => ?_) (fun h11 => ?_)
                · refine wa_iload rfl ?_
                  refine wa_bipush (v := 16) (by decide) ?_
                  refine wa_icmp_ge o_X12_feed_85 (by decide) (fun h12 => ?_) (fun h12 => ?_)
                  · refine wa_iload rfl ?_
                    refine wa_istoreD (lv' := [(7, .int a4), (0, .ref 84), (1, .int a0), (2, .int a1), (3, .int a2), (4, .int a3), (5, .int a4), (6, .int l6)]) (by decide) rfl ?_
                    refine wa_aload_n (i := 0) rfl rfl ?_
                    refine wa_getr ck_12 fl_12_15 ly_84 rf_84_1 ?_
                    refine wa_aload_n (i := 0) rfl rfl ?_
                    refine wa_geti ck_12 fl_12_485 ly_84 ?_
                    refine wa_iload rfl ?_
                    refine wa_bipush (v := 24) (by decide) ?_
                    refine wa_bipush (v := 8) (by decide) ?_
                    refine wa_iload rfl ?_
                    refine wa_iconst (v := 4) (by decide) ?_
                    refine wa_irem (by ((try simp only [vp_in_iff, Int32.lt_iff_toInt_lt, Int32.le_iff_toInt_le, ← Int32.toInt_inj, Int32.reduceToInt, n_1, n_2, n_8, Int32.toNatClampNeg, Int64.lt_iff_toInt_lt, Int64.le_iff_toInt_le, ← Int64.toInt_inj, Int64.reduceToInt, Int32.toInt_toInt64, lg_cmp_ge, lg_cmp_le, lg_cmp_gt, lg_cmp_lt, lg_cmp_eq, Bool.false_eq_true, Bool.true_eq_false, reduceCtorEq, false_iff, true_iff, iff_true, iff_false, and_true, true_and, and_false, false_and, reduceIte, ite_true, ite_false, eq_self] at *)) <;> omega) ?_
                    refine wa_top (fun v13 hv13 => ?_)
                    have tv13 := i_remU hv13
                    clear hv13
                    refine wa_imul ?_
                    refine wa_top (fun v14 hv14 => ?_)
                    have tv14 := i_mulT hv14
                    clear hv14
                    refine wa_isub ?_
                    refine wa_top (fun v15 hv15 => ?_)
                    have tv15 := i_subT hv15
                    clear hv15
                    refine wa_ishr ?_
                    refine wa_top (fun v16 hv16 => ?_)
                    clear hv16
                    refine wa_i2b ?_
                    refine wa_top (fun v17 hv17 => ?_)
                    clear hv17
                    refine wa_bast ly_208 (by ((try simp only [vp_in_iff, Int32.lt_iff_toInt_lt, Int32.le_iff_toInt_le, ← Int32.toInt_inj, Int32.reduceToInt, n_1, n_2, n_8, Int32.toNatClampNeg, Int64.lt_iff_toInt_lt, Int64.le_iff_toInt_le, ← Int64.toInt_inj, Int64.reduceToInt, Int32.toInt_toInt64, lg_cmp_ge, lg_cmp_le, lg_cmp_gt, lg_cmp_lt, lg_cmp_eq, Bool.false_eq_true, Bool.true_eq_false, reduceCtorEq, false_iff, true_iff, iff_true, iff_false, and_true, true_and, and_false, false_and, reduceIte, ite_true, ite_false, eq_self] at *)) <;> omega) (fun s18 hs18 => ?_)
                    have Fs18 : Fm [208] [0, 2] σ s18 := by rw [hs18]; exact Fm.sy Fs5 rfl
                    refine wa_aload_n (i := 0) rfl rfl ?_
                    refine wa_dup rfl ?_
                    refine wa_geti ck_12 fl_12_485 ly_84 ?_
                    refine wa_rw (nx_gi_sy hs18) ?_
                    refine wa_iconst (v := 1) (by decide) ?_
                    refine wa_iadd ?_
                    refine wa_top (fun v19 hv19 => ?_)
                    have tv19 := i_addT hv19
                    clear hv19
                    refine wa_puti ck_12 fl_12_485 ly_84 (fun s20 hs20 => ?_)
                    have Fs20 : Fm [208] [0, 2] σ s20 := by rw [hs20]; exact Fm.si Fs18 rfl
                    refine wa_iinc (v := (1)) (lv' := fun y21 => [(6, .int y21), (7, .int a4), (0, .ref 84), (1, .int a0), (2, .int a1), (3, .int a2), (4, .int a3), (5, .int a4)]) (by decide) rfl (by decide) (fun _ => rfl) (fun y21 hy21 => ?_)
                    have ty21 := i_addT hy21.symm
                    clear hy21
                    refine wa_goto o_X12_feed_34 (by decide) ?_
                    refine wa_pick [2, 3, 4, 5, 6, 7, 0] rfl ?_
                    exact ih6 _ (by ((try simp only [vp_in_iff, Int32.lt_iff_toInt_lt, Int32.le_iff_toInt_le, ← Int32.toInt_inj, Int32.reduceToInt, n_1, n_2, n_8, Int32.toNatClampNeg, Int64.lt_iff_toInt_lt, Int64.le_iff_toInt_le, ← Int64.toInt_inj, Int64.reduceToInt, Int32.toInt_toInt64, lg_cmp_ge, lg_cmp_le, lg_cmp_gt, lg_cmp_lt, lg_cmp_eq, Bool.false_eq_true, Bool.true_eq_false, reduceCtorEq, false_iff, true_iff, iff_true, iff_false, and_true, true_and, and_false, false_and, reduceIte, ite_true, ite_false, eq_self] at *)) <;> omega) _ _ ⟨Fs20, ((nxk_gi_si hs20 (by decide)).trans ((nx_gi_sy hs18).trans (khi7_0))), (by ((try simp only [vp_in_iff, Int32.lt_iff_toInt_lt, Int32.le_iff_toInt_le, ← Int32.toInt_inj, Int32.reduceToInt, n_1, n_2, n_8, Int32.toNatClampNeg, Int64.lt_iff_toInt_lt, Int64.le_iff_toInt_le, ← Int64.toInt_inj, Int64.reduceToInt, Int32.toInt_toInt64, lg_cmp_ge, lg_cmp_le, lg_cmp_gt, lg_cmp_lt, lg_cmp_eq, Bool.false_eq_true, Bool.true_eq_false, reduceCtorEq, false_iff, true_iff, iff_true, iff_false, and_true, true_and, and_false, false_and, reduceIte, ite_true, ite_false, eq_self] at *)) <;> omega), (by rw [nxe_gi_si hs20]; first | assumption | (((try simp only [vp_in_iff, Int32.lt_iff_toInt_lt, Int32.le_iff_toInt_le, ← Int32.toInt_inj, Int32.reduceToInt, n_1, n_2, n_8, Int32.toNatClampNeg, Int64.lt_iff_toInt_lt, Int64.le_iff_toInt_le, ← Int64.toInt_inj, Int64.reduceToInt, Int32.toInt_toInt64, lg_cmp_ge, lg_cmp_le, lg_cmp_gt, lg_cmp_lt, lg_cmp_eq, Bool.false_eq_true, Bool.true_eq_false, reduceCtorEq, false_iff, true_iff, iff_true, iff_false, and_true, true_and, and_false, false_and, reduceIte, ite_true, ite_false, eq_self] at *)) <;> omega)), (by rw [nxe_gi_si hs20]; first | assumption | (((try simp only [vp_in_iff, Int32.lt_iff_toInt_lt, Int32.le_iff_toInt_le, ← Int32.toInt_inj, Int32.reduceToInt, n_1, n_2, n_8, Int32.toNatClampNeg, Int64.lt_iff_toInt_lt, Int64.le_iff_toInt_le, ← Int64.toInt_inj, Int64.reduceToInt, Int32.toInt_toInt64, lg_cmp_ge, lg_cmp_le, lg_cmp_gt, lg_cmp_lt, lg_cmp_eq, Bool.false_eq_true, Bool.true_eq_false, reduceCtorEq, false_iff, true_iff, iff_true, iff_false, and_true, true_and, and_false, false_and, reduceIte, ite_true, ite_false, eq_self] at *)) <;> omega)), trivial⟩ rfl
                  · have mh12 := nle_mx h12
                    refine wa_iload rfl ?_
                    refine wa_goto o_X12_feed_87 (by decide) ?_
                    refine wa_istoreD (lv' := [(7, .int a3), (0, .ref 84), (1, .int a0), (2, .int a1), (3, .int a2), (4, .int a3), (5, .int a4), (6, .int l6)]) (by decide) rfl ?_
                    refine wa_aload_n (i := 0) rfl rfl ?_
                    refine wa_getr ck_12 fl_12_15 ly_84 rf_84_1 ?_
                    refine wa_aload_n (i := 0) rfl rfl ?_
                    refine wa_geti ck_12 fl_12_485 ly_84 ?_
                    refine wa_iload rfl ?_
                    refine wa_bipush (v := 24) (by decide) ?_
                    refine wa_bipush (v := 8) (by decide) ?_
                    refine wa_iload rfl ?_
                    refine wa_iconst (v := 4) (by decide) ?_
                    refine wa_irem (by ((try simp only [vp_in_iff, Int32.lt_iff_toInt_lt, Int32.le_iff_toInt_le, ← Int32.toInt_inj, Int32.reduceToInt, n_1, n_2, n_8, Int32.toNatClampNeg, Int64.lt_iff_toInt_lt, Int64.le_iff_toInt_le, ← Int64.toInt_inj, Int64.reduceToInt, Int32.toInt_toInt64, lg_cmp_ge, lg_cmp_le, lg_cmp_gt, lg_cmp_lt, lg_cmp_eq, Bool.false_eq_true, Bool.true_eq_false, reduceCtorEq, false_iff, true_iff, iff_true, iff_false, and_true, true_and, and_false, false_and, reduceIte, ite_true, ite_false, eq_self] at *)) <;> omega) ?_
                    refine wa_top (fun v22 hv22 => ?_)
                    have tv22 := i_remU hv22
                    clear hv22
                    refine wa_imul ?_
                    refine wa_top (fun v23 hv23 => ?_)
                    have tv23 := i_mulT hv23
                    clear hv23
                    refine wa_isub ?_
                    refine wa_top (fun v24 hv24 => ?_)
                    have tv24 := i_subT hv24
                    clear hv24
                    refine wa_ishr ?_
                    refine wa_top (fun v25 hv25 => ?_)
                    clear hv25
                    refine wa_i2b ?_
                    refine wa_top (fun v26 hv26 => ?_)
                    clear hv26
                    refine wa_bast ly_208 (by ((try simp only [vp_in_iff, Int32.lt_iff_toInt_lt, Int32.le_iff_toInt_le, ← Int32.toInt_inj, Int32.reduceToInt, n_1, n_2, n_8, Int32.toNatClampNeg, Int64.lt_iff_toInt_lt, Int64.le_iff_toInt_le, ← Int64.toInt_inj, Int64.reduceToInt, Int32.toInt_toInt64, lg_cmp_ge, lg_cmp_le, lg_cmp_gt, lg_cmp_lt, lg_cmp_eq, Bool.false_eq_true, Bool.true_eq_false, reduceCtorEq, false_iff, true_iff, iff_true, iff_false, and_true, true_and, and_false, false_and, reduceIte, ite_true, ite_false, eq_self] at *)) <;> omega) (fun s27 hs27 => ?_)
                    have Fs27 : Fm [208] [0, 2] σ s27 := by rw [hs27]; exact Fm.sy Fs5 rfl
                    refine wa_aload_n (i := 0) rfl rfl ?_
                    refine wa_dup rfl ?_
                    refine wa_geti ck_12 fl_12_485 ly_84 ?_
                    refine wa_rw (nx_gi_sy hs27) ?_
                    refine wa_iconst (v := 1) (by decide) ?_
                    refine wa_iadd ?_
                    refine wa_top (fun v28 hv28 => ?_)
                    have tv28 := i_addT hv28
                    clear hv28
                    refine wa_puti ck_12 fl_12_485 ly_84 (fun s29 hs29 => ?_)
                    have Fs29 : Fm [208] [0, 2] σ s29 := by rw [hs29]; exact Fm.si Fs27 rfl
                    refine wa_iinc (v := (1)) (lv' := fun y30 => [(6, .int y30), (7, .int a3), (0, .ref 84), (1, .int a0), (2, .int a1), (3, .int a2), (4, .int a3), (5, .int a4)]) (by decide) rfl (by decide) (fun _ => rfl) (fun y30 hy30 => ?_)
                    have ty30 := i_addT hy30.symm
                    clear hy30
                    refine wa_goto o_X12_feed_34 (by decide) ?_
                    refine wa_pick [2, 3, 4, 5, 6, 7, 0] rfl ?_
                    exact ih6 _ (by ((try simp only [vp_in_iff, Int32.lt_iff_toInt_lt, Int32.le_iff_toInt_le, ← Int32.toInt_inj, Int32.reduceToInt, n_1, n_2, n_8, Int32.toNatClampNeg, Int64.lt_iff_toInt_lt, Int64.le_iff_toInt_le, ← Int64.toInt_inj, Int64.reduceToInt, Int32.toInt_toInt64, lg_cmp_ge, lg_cmp_le, lg_cmp_gt, lg_cmp_lt, lg_cmp_eq, Bool.false_eq_true, Bool.true_eq_false, reduceCtorEq, false_iff, true_iff, iff_true, iff_false, and_true, true_and, and_false, false_and, reduceIte, ite_true, ite_false, eq_self] at *)) <;> omega) _ _ ⟨Fs29, ((nxk_gi_si hs29 (by decide)).trans ((nx_gi_sy hs27).trans (khi7_0))), (by ((try simp only [vp_in_iff, Int32.lt_iff_toInt_lt, Int32.le_iff_toInt_le, ← Int32.toInt_inj, Int32.reduceToInt, n_1, n_2, n_8, Int32.toNatClampNeg, Int64.lt_iff_toInt_lt, Int64.le_iff_toInt_le, ← Int64.toInt_inj, Int64.reduceToInt, Int32.toInt_toInt64, lg_cmp_ge, lg_cmp_le, lg_cmp_gt, lg_cmp_lt, lg_cmp_eq, Bool.false_eq_true, Bool.true_eq_false, reduceCtorEq, false_iff, true_iff, iff_true, iff_false, and_true, true_and, and_false, false_and, reduceIte, ite_true, ite_false, eq_self] at *)) <;> omega), (by rw [nxe_gi_si hs29]; first | assumption | (((try simp only [vp_in_iff, Int32.lt_iff_toInt_lt, Int32.le_iff_toInt_le, ← Int32.toInt_inj, Int32.reduceToInt, n_1, n_2, n_8, Int32.toNatClampNeg, Int64.lt_iff_toInt_lt, Int64.le_iff_toInt_le, ← Int64.toInt_inj, Int64.reduceToInt, Int32.toInt_toInt64, lg_cmp_ge, lg_cmp_le, lg_cmp_gt, lg_cmp_lt, lg_cmp_eq, Bool.false_eq_true, Bool.true_eq_false, reduceCtorEq, false_iff, true_iff, iff_true, iff_false, and_true, true_and, and_false, false_and, reduceIte, ite_true, ite_false, eq_self] at *)) <;> omega)), (by rw [nxe_gi_si hs29]; first | assumption | (((try simp only [vp_in_iff, Int32.lt_iff_toInt_lt, Int32.le_iff_toInt_le, ← Int32.toInt_inj, Int32.reduceToInt, n_1, n_2, n_8, Int32.toNatClampNeg, Int64.lt_iff_toInt_lt, Int64.le_iff_toInt_le, ← Int64.toInt_inj, Int64.reduceToInt, Int32.toInt_toInt64, lg_cmp_ge, lg_cmp_le, lg_cmp_gt, lg_cmp_lt, lg_cmp_eq, Bool.false_eq_true, Bool.true_eq_false, reduceCtorEq, false_iff, true_iff, iff_true, iff_false, and_true, true_and, and_false, false_and, reduceIte, ite_true, ite_false, eq_self] at *)) <;> omega)), trivial⟩ rfl
                · have mh11 := nle_mx h11
                  refine wa_iload_n (i := 3) rfl rfl ?_
                  refine wa_goto o_X12_feed_87 (by decide) ?_
                  refine wa_istoreD (lv' := [(7, .int a2), (0, .ref 84), (1, .int a0), (2, .int a1), (3, .int a2), (4, .int a3), (5, .int a4), (6, .int l6)]) (by decide) rfl ?_
                  refine wa_aload_n (i := 0) rfl rfl ?_
                  refine wa_getr ck_12 fl_12_15 ly_84 rf_84_1 ?_
                  refine wa_aload_n (i := 0) rfl rfl ?_
                  refine wa_geti ck_12 fl_12_485 ly_84 ?_
                  refine wa_iload rfl ?_
                  refine wa_bipush (v := 24) (by decide) ?_
                  refine wa_bipush (v := 8) (by decide) ?_
                  refine wa_iload rfl ?_
                  refine wa_iconst (v := 4) (by decide) ?_
                  refine wa_irem (by ((try simp only [vp_in_iff, Int32.lt_iff_toInt_lt, Int32.le_iff_toInt_le, ← Int32.toInt_inj, Int32.reduceToInt, n_1, n_2, n_8, Int32.toNatClampNeg, Int64.lt_iff_toInt_lt, Int64.le_iff_toInt_le, ← Int64.toInt_inj, Int64.reduceToInt, Int32.toInt_toInt64, lg_cmp_ge, lg_cmp_le, lg_cmp_gt, lg_cmp_lt, lg_cmp_eq, Bool.false_eq_true, Bool.true_eq_false, reduceCtorEq, false_iff, true_iff, iff_true, iff_false, and_true, true_and, and_false, false_and, reduceIte, ite_true, ite_false, eq_self] at *)) <;> omega) ?_
                  refine wa_top (fun v31 hv31 => ?_)
                  have tv31 := i_remU hv31
                  clear hv31
                  refine wa_imul ?_
                  refine wa_top (fun v32 hv32 => ?_)
                  have tv32 := i_mulT hv32
                  clear hv32
                  refine wa_isub ?_
                  refine wa_top (fun v33 hv33 => ?_)
                  have tv33 := i_subT hv33
                  clear hv33
                  refine wa_ishr ?_
                  refine wa_top (fun v34 hv34 => ?_)
                  clear hv34
                  refine wa_i2b ?_
                  refine wa_top (fun v35 hv35 => ?_)
                  clear hv35
                  refine wa_bast ly_208 (by ((try simp only [vp_in_iff, Int32.lt_iff_toInt_lt, Int32.le_iff_toInt_le, ← Int32.toInt_inj, Int32.reduceToInt, n_1, n_2, n_8, Int32.toNatClampNeg, Int64.lt_iff_toInt_lt, Int64.le_iff_toInt_le, ← Int64.toInt_inj, Int64.reduceToInt, Int32.toInt_toInt64, lg_cmp_ge, lg_cmp_le, lg_cmp_gt, lg_cmp_lt, lg_cmp_eq, Bool.false_eq_true, Bool.true_eq_false, reduceCtorEq, false_iff, true_iff, iff_true, iff_false, and_true, true_and, and_false, false_and, reduceIte, ite_true, ite_false, eq_self] at *)) <;> omega) (fun s36 hs36 => ?_)
                  have Fs36 : Fm [208] [0, 2] σ s36 := by rw [hs36]; exact Fm.sy Fs5 rfl
                  refine wa_aload_n (i := 0) rfl rfl ?_
                  refine wa_dup rfl ?_
                  refine wa_geti ck_12 fl_12_485 ly_84 ?_
                  refine wa_rw (nx_gi_sy hs36) ?_
                  refine wa_iconst (v := 1) (by decide) ?_
                  refine wa_iadd ?_
                  refine wa_top (fun v37 hv37 => ?_)
                  have tv37 := i_addT hv37
                  clear hv37
                  refine wa_puti ck_12 fl_12_485 ly_84 (fun s38 hs38 => ?_)
                  have Fs38 : Fm [208] [0, 2] σ s38 := by rw [hs38]; exact Fm.si Fs36 rfl
                  refine wa_iinc (v := (1)) (lv' := fun y39 => [(6, .int y39), (7, .int a2), (0, .ref 84), (1, .int a0), (2, .int a1), (3, .int a2), (4, .int a3), (5, .int a4)]) (by decide) rfl (by decide) (fun _ => rfl) (fun y39 hy39 => ?_)
                  have ty39 := i_addT hy39.symm
                  clear hy39
                  refine wa_goto o_X12_feed_34 (by decide) ?_
                  refine wa_pick [2, 3, 4, 5, 6, 7, 0] rfl ?_
                  exact ih6 _ (by ((try simp only [vp_in_iff, Int32.lt_iff_toInt_lt, Int32.le_iff_toInt_le, ← Int32.toInt_inj, Int32.reduceToInt, n_1, n_2, n_8, Int32.toNatClampNeg, Int64.lt_iff_toInt_lt, Int64.le_iff_toInt_le, ← Int64.toInt_inj, Int64.reduceToInt, Int32.toInt_toInt64, lg_cmp_ge, lg_cmp_le, lg_cmp_gt, lg_cmp_lt, lg_cmp_eq, Bool.false_eq_true, Bool.true_eq_false, reduceCtorEq, false_iff, true_iff, iff_true, iff_false, and_true, true_and, and_false, false_and, reduceIte, ite_true, ite_false, eq_self] at *)) <;> omega) _ _ ⟨Fs38, ((nxk_gi_si hs38 (by decide)).trans ((nx_gi_sy hs36).trans (khi7_0))), (by ((try simp only [vp_in_iff, Int32.lt_iff_toInt_lt, Int32.le_iff_toInt_le, ← Int32.toInt_inj, Int32.reduceToInt, n_1, n_2, n_8, Int32.toNatClampNeg, Int64.lt_iff_toInt_lt, Int64.le_iff_toInt_le, ← Int64.toInt_inj, Int64.reduceToInt, Int32.toInt_toInt64, lg_cmp_ge, lg_cmp_le, lg_cmp_gt, lg_cmp_lt, lg_cmp_eq, Bool.false_eq_true, Bool.true_eq_false, reduceCtorEq, false_iff, true_iff, iff_true, iff_false, and_true, true_and, and_false, false_and, reduceIte, ite_true, ite_false, eq_self] at *)) <;> omega), (by rw [nxe_gi_si hs38]; first | assumption | (((try simp only [vp_in_iff, Int32.lt_iff_toInt_lt, Int32.le_iff_toInt_le, ← Int32.toInt_inj, Int32.reduceToInt, n_1, n_2, n_8, Int32.toNatClampNeg, Int64.lt_iff_toInt_lt, Int64.le_iff_toInt_le, ← Int64.toInt_inj, Int64.reduceToInt, Int32.toInt_toInt64, lg_cmp_ge, lg_cmp_le, lg_cmp_gt, lg_cmp_lt, lg_cmp_eq, Bool.false_eq_true, Bool.true_eq_false, reduceCtorEq, false_iff, true_iff, iff_true, iff_false, and_true, true_and, and_false, false_and, reduceIte, ite_true, ite_false, eq_self] at *)) <;> omega)), (by rw [nxe_gi_si hs38]; first | assumption | (((try simp only [vp_in_iff, Int32.lt_iff_toInt_lt, Int32.le_iff_toInt_le, ← Int32.toInt_inj, Int32.reduceToInt, n_1, n_2, n_8, Int32.toNatClampNeg, Int64.lt_iff_toInt_lt, Int64.le_iff_toInt_le, ← Int64.toInt_inj, Int64.reduceToInt, Int32.toInt_toInt64, lg_cmp_ge, lg_cmp_le, lg_cmp_gt, lg_cmp_lt, lg_cmp_eq, Bool.false_eq_true, Bool.true_eq_false, reduceCtorEq, false_iff, true_iff, iff_true, iff_false, and_true, true_and, and_false, false_and, reduceIte, ite_true, ite_false, eq_self] at *)) <;> omega)), trivial⟩ rfl
              · have mh10 := nle_mx h10
                refine wa_iload_n (i := 2) rfl rfl ?_
                refine wa_goto o_X12_feed_87 (by decide) ?_
                refine wa_istoreD (lv' := [(7, .int a1), (0, .ref 84), (1, .int a0), (2, .int a1), (3, .int a2), (4, .int a3), (5, .int a4), (6, .int l6)]) (by decide) rfl ?_
                refine wa_aload_n (i := 0) rfl rfl ?_
                refine wa_getr ck_12 fl_12_15 ly_84 rf_84_1 ?_
                refine wa_aload_n (i := 0) rfl rfl ?_
                refine wa_geti ck_12 fl_12_485 ly_84 ?_
                refine wa_iload rfl ?_
                refine wa_bipush (v := 24) (by decide) ?_
                refine wa_bipush (v := 8) (by decide) ?_
                refine wa_iload rfl ?_
                refine wa_iconst (v := 4) (by decide) ?_
                refine wa_irem (by ((try simp only [vp_in_iff, Int32.lt_iff_toInt_lt, Int32.le_iff_toInt_le, ← Int32.toInt_inj, Int32.reduceToInt, n_1, n_2, n_8, Int32.toNatClampNeg, Int64.lt_iff_toInt_lt, Int64.le_iff_toInt_le, ← Int64.toInt_inj, Int64.reduceToInt, Int32.toInt_toInt64, lg_cmp_ge, lg_cmp_le, lg_cmp_gt, lg_cmp_lt, lg_cmp_eq, Bool.false_eq_true, Bool.true_eq_false, reduceCtorEq, false_iff, true_iff, iff_true, iff_false, and_true, true_and, and_false, false_and, reduceIte, ite_true, ite_false, eq_self] at *)) <;> omega) ?_
                refine wa_top (fun v40 hv40 => ?_)
                have tv40 := i_remU hv40
                clear hv40
                refine wa_imul ?_
                refine wa_top (fun v41 hv41 => ?_)
                have tv41 := i_mulT hv41
                clear hv41
                refine wa_isub ?_
                refine wa_top (fun v42 hv42 => ?_)
                have tv42 := i_subT hv42
                clear hv42
                refine wa_ishr ?_
                refine wa_top (fun v43 hv43 => ?_)
                clear hv43
                refine wa_i2b ?_
                refine wa_top (fun v44 hv44 => ?_)
                clear hv44
                refine wa_bast ly_208 (by ((try simp only [vp_in_iff, Int32.lt_iff_toInt_lt, Int32.le_iff_toInt_le, ← Int32.toInt_inj, Int32.reduceToInt, n_1, n_2, n_8, Int32.toNatClampNeg, Int64.lt_iff_toInt_lt, Int64.le_iff_toInt_le, ← Int64.toInt_inj, Int64.reduceToInt, Int32.toInt_toInt64, lg_cmp_ge, lg_cmp_le, lg_cmp_gt, lg_cmp_lt, lg_cmp_eq, Bool.false_eq_true, Bool.true_eq_false, reduceCtorEq, false_iff, true_iff, iff_true, iff_false, and_true, true_and, and_false, false_and, reduceIte, ite_true, ite_false, eq_self] at *)) <;> omega) (fun s45 hs45 => ?_)
                have Fs45 : Fm [208] [0, 2] σ s45 := by rw [hs45]; exact Fm.sy Fs5 rfl
                refine wa_aload_n (i := 0) rfl rfl ?_
                refine wa_dup rfl ?_
                refine wa_geti ck_12 fl_12_485 ly_84 ?_
                refine wa_rw (nx_gi_sy hs45) ?_
                refine wa_iconst (v := 1) (by decide) ?_
                refine wa_iadd ?_
                refine wa_top (fun v46 hv46 => ?_)
                have tv46 := i_addT hv46
                clear hv46
                refine wa_puti ck_12 fl_12_485 ly_84 (fun s47 hs47 => ?_)
                have Fs47 : Fm [208] [0, 2] σ s47 := by rw [hs47]; exact Fm.si Fs45 rfl
                refine wa_iinc (v := (1)) (lv' := fun y48 => [(6, .int y48), (7, .int a1), (0, .ref 84), (1, .int a0), (2, .int a1), (3, .int a2), (4, .int a3), (5, .int a4)]) (by decide) rfl (by decide) (fun _ => rfl) (fun y48 hy48 => ?_)
                have ty48 := i_addT hy48.symm
                clear hy48
                refine wa_goto o_X12_feed_34 (by decide) ?_
                refine wa_pick [2, 3, 4, 5, 6, 7, 0] rfl ?_
                exact ih6 _ (by ((try simp only [vp_in_iff, Int32.lt_iff_toInt_lt, Int32.le_iff_toInt_le, ← Int32.toInt_inj, Int32.reduceToInt, n_1, n_2, n_8, Int32.toNatClampNeg, Int64.lt_iff_toInt_lt, Int64.le_iff_toInt_le, ← Int64.toInt_inj, Int64.reduceToInt, Int32.toInt_toInt64, lg_cmp_ge, lg_cmp_le, lg_cmp_gt, lg_cmp_lt, lg_cmp_eq, Bool.false_eq_true, Bool.true_eq_false, reduceCtorEq, false_iff, true_iff, iff_true, iff_false, and_true, true_and, and_false, false_and, reduceIte, ite_true, ite_false, eq_self] at *)) <;> omega) _ _ ⟨Fs47, ((nxk_gi_si hs47 (by decide)).trans ((nx_gi_sy hs45).trans (khi7_0))), (by ((try simp only [vp_in_iff, Int32.lt_iff_toInt_lt, Int32.le_iff_toInt_le, ← Int32.toInt_inj, Int32.reduceToInt, n_1, n_2, n_8, Int32.toNatClampNeg, Int64.lt_iff_toInt_lt, Int64.le_iff_toInt_le, ← Int64.toInt_inj, Int64.reduceToInt, Int32.toInt_toInt64, lg_cmp_ge, lg_cmp_le, lg_cmp_gt, lg_cmp_lt, lg_cmp_eq, Bool.false_eq_true, Bool.true_eq_false, reduceCtorEq, false_iff, true_iff, iff_true, iff_false, and_true, true_and, and_false, false_and, reduceIte, ite_true, ite_false, eq_self] at *)) <;> omega), (by rw [nxe_gi_si hs47]; first | assumption | (((try simp only [vp_in_iff, Int32.lt_iff_toInt_lt, Int32.le_iff_toInt_le, ← Int32.toInt_inj, Int32.reduceToInt, n_1, n_2, n_8, Int32.toNatClampNeg, Int64.lt_iff_toInt_lt, Int64.le_iff_toInt_le, ← Int64.toInt_inj, Int64.reduceToInt, Int32.toInt_toInt64, lg_cmp_ge, lg_cmp_le, lg_cmp_gt, lg_cmp_lt, lg_cmp_eq, Bool.false_eq_true, Bool.true_eq_false, reduceCtorEq, false_iff, true_iff, iff_true, iff_false, and_true, true_and, and_false, false_and, reduceIte, ite_true, ite_false, eq_self] at *)) <;> omega)), (by rw [nxe_gi_si hs47]; first | assumption | (((try simp only [vp_in_iff, Int32.lt_iff_toInt_lt, Int32.le_iff_toInt_le, ← Int32.toInt_inj, Int32.reduceToInt, n_1, n_2, n_8, Int32.toNatClampNeg, Int64.lt_iff_toInt_lt, Int64.le_iff_toInt_le, ← Int64.toInt_inj, Int64.reduceToInt, Int32.toInt_toInt64, lg_cmp_ge, lg_cmp_le, lg_cmp_gt, lg_cmp_lt, lg_cmp_eq, Bool.false_eq_true, Bool.true_eq_false, reduceCtorEq, false_iff, true_iff, iff_true, iff_false, and_true, true_and, and_false, false_and, reduceIte, ite_true, ite_false, eq_self] at *)) <;> omega)), trivial⟩ rfl
            · have mh9 := nle_mx h9
              refine wa_iload_n (i := 1) rfl rfl ?_
              refine wa_goto o_X12_feed_87 (by decide) ?_
              refine wa_istoreD (lv' := [(7, .int a0), (0, .ref 84), (1, .int a0), (2, .int a1), (3, .int a2), (4, .int a3), (5, .int a4), (6, .int l6)]) (by decide) rfl ?_
              refine wa_aload_n (i := 0) rfl rfl ?_
              refine wa_getr ck_12 fl_12_15 ly_84 rf_84_1 ?_
              refine wa_aload_n (i := 0) rfl rfl ?_
              refine wa_geti ck_12 fl_12_485 ly_84 ?_
              refine wa_iload rfl ?_
              refine wa_bipush (v := 24) (by decide) ?_
              refine wa_bipush (v := 8) (by decide) ?_
              refine wa_iload rfl ?_
              refine wa_iconst (v := 4) (by decide) ?_
              refine wa_irem (by ((try simp only [vp_in_iff, Int32.lt_iff_toInt_lt, Int32.le_iff_toInt_le, ← Int32.toInt_inj, Int32.reduceToInt, n_1, n_2, n_8, Int32.toNatClampNeg, Int64.lt_iff_toInt_lt, Int64.le_iff_toInt_le, ← Int64.toInt_inj, Int64.reduceToInt, Int32.toInt_toInt64, lg_cmp_ge, lg_cmp_le, lg_cmp_gt, lg_cmp_lt, lg_cmp_eq, Bool.false_eq_true, Bool.true_eq_false, reduceCtorEq, false_iff, true_iff, iff_true, iff_false, and_true, true_and, and_false, false_and, reduceIte, ite_true, ite_false, eq_self] at *)) <;> omega) ?_
              refine wa_top (fun v49 hv49 => ?_)
              have tv49 := i_remU hv49
              clear hv49
              refine wa_imul ?_
              refine wa_top (fun v50 hv50 => ?_)
              have tv50 := i_mulT hv50
              clear hv50
              refine wa_isub ?_
              refine wa_top (fun v51 hv51 => ?_)
              have tv51 := i_subT hv51
              clear hv51
              refine wa_ishr ?_
              refine wa_top (fun v52 hv52 => ?_)
              clear hv52
              refine wa_i2b ?_
              refine wa_top (fun v53 hv53 => ?_)
              clear hv53
              refine wa_bast ly_208 (by ((try simp only [vp_in_iff, Int32.lt_iff_toInt_lt, Int32.le_iff_toInt_le, ← Int32.toInt_inj, Int32.reduceToInt, n_1, n_2, n_8, Int32.toNatClampNeg, Int64.lt_iff_toInt_lt, Int64.le_iff_toInt_le, ← Int64.toInt_inj, Int64.reduceToInt, Int32.toInt_toInt64, lg_cmp_ge, lg_cmp_le, lg_cmp_gt, lg_cmp_lt, lg_cmp_eq, Bool.false_eq_true, Bool.true_eq_false, reduceCtorEq, false_iff, true_iff, iff_true, iff_false, and_true, true_and, and_false, false_and, reduceIte, ite_true, ite_false, eq_self] at *)) <;> omega) (fun s54 hs54 => ?_)
              have Fs54 : Fm [208] [0, 2] σ s54 := by rw [hs54]; exact Fm.sy Fs5 rfl
              refine wa_aload_n (i := 0) rfl rfl ?_
              refine wa_dup rfl ?_
              refine wa_geti ck_12 fl_12_485 ly_84 ?_
              refine wa_rw (nx_gi_sy hs54) ?_
              refine wa_iconst (v := 1) (by decide) ?_
              refine wa_iadd ?_
              refine wa_top (fun v55 hv55 => ?_)
              have tv55 := i_addT hv55
              clear hv55
              refine wa_puti ck_12 fl_12_485 ly_84 (fun s56 hs56 => ?_)
              have Fs56 : Fm [208] [0, 2] σ s56 := by rw [hs56]; exact Fm.si Fs54 rfl
              refine wa_iinc (v := (1)) (lv' := fun y57 => [(6, .int y57), (7, .int a0), (0, .ref 84), (1, .int a0), (2, .int a1), (3, .int a2), (4, .int a3), (5, .int a4)]) (by decide) rfl (by decide) (fun _ => rfl) (fun y57 hy57 => ?_)
              have ty57 := i_addT hy57.symm
              clear hy57
              refine wa_goto o_X12_feed_34 (by decide) ?_
              refine wa_pick [2, 3, 4, 5, 6, 7, 0] rfl ?_
              exact ih6 _ (by ((try simp only [vp_in_iff, Int32.lt_iff_toInt_lt, Int32.le_iff_toInt_le, ← Int32.toInt_inj, Int32.reduceToInt, n_1, n_2, n_8, Int32.toNatClampNeg, Int64.lt_iff_toInt_lt, Int64.le_iff_toInt_le, ← Int64.toInt_inj, Int64.reduceToInt, Int32.toInt_toInt64, lg_cmp_ge, lg_cmp_le, lg_cmp_gt, lg_cmp_lt, lg_cmp_eq, Bool.false_eq_true, Bool.true_eq_false, reduceCtorEq, false_iff, true_iff, iff_true, iff_false, and_true, true_and, and_false, false_and, reduceIte, ite_true, ite_false, eq_self] at *)) <;> omega) _ _ ⟨Fs56, ((nxk_gi_si hs56 (by decide)).trans ((nx_gi_sy hs54).trans (khi7_0))), (by ((try simp only [vp_in_iff, Int32.lt_iff_toInt_lt, Int32.le_iff_toInt_le, ← Int32.toInt_inj, Int32.reduceToInt, n_1, n_2, n_8, Int32.toNatClampNeg, Int64.lt_iff_toInt_lt, Int64.le_iff_toInt_le, ← Int64.toInt_inj, Int64.reduceToInt, Int32.toInt_toInt64, lg_cmp_ge, lg_cmp_le, lg_cmp_gt, lg_cmp_lt, lg_cmp_eq, Bool.false_eq_true, Bool.true_eq_false, reduceCtorEq, false_iff, true_iff, iff_true, iff_false, and_true, true_and, and_false, false_and, reduceIte, ite_true, ite_false, eq_self] at *)) <;> omega), (by rw [nxe_gi_si hs56]; first | assumption | (((try simp only [vp_in_iff, Int32.lt_iff_toInt_lt, Int32.le_iff_toInt_le, ← Int32.toInt_inj, Int32.reduceToInt, n_1, n_2, n_8, Int32.toNatClampNeg, Int64.lt_iff_toInt_lt, Int64.le_iff_toInt_le, ← Int64.toInt_inj, Int64.reduceToInt, Int32.toInt_toInt64, lg_cmp_ge, lg_cmp_le, lg_cmp_gt, lg_cmp_lt, lg_cmp_eq, Bool.false_eq_true, Bool.true_eq_false, reduceCtorEq, false_iff, true_iff, iff_true, iff_false, and_true, true_and, and_false, false_and, reduceIte, ite_true, ite_false, eq_self] at *)) <;> omega)), (by rw [nxe_gi_si hs56]; first | assumption | (((try simp only [vp_in_iff, Int32.lt_iff_toInt_lt, Int32.le_iff_toInt_le, ← Int32.toInt_inj, Int32.reduceToInt, n_1, n_2, n_8, Int32.toNatClampNeg, Int64.lt_iff_toInt_lt, Int64.le_iff_toInt_le, ← Int64.toInt_inj, Int64.reduceToInt, Int32.toInt_toInt64, lg_cmp_ge, lg_cmp_le, lg_cmp_gt, lg_cmp_lt, lg_cmp_eq, Bool.false_eq_true, Bool.true_eq_false, reduceCtorEq, false_iff, true_iff, iff_true, iff_false, and_true, true_and, and_false, false_and, reduceIte, ite_true, ite_false, eq_self] at *)) <;> omega)), trivial⟩ rfl
      exact hi7 _ _ _ ⟨Fs3, (nxe_gi_si hs3), (by ((try simp only [vp_in_iff, Int32.lt_iff_toInt_lt, Int32.le_iff_toInt_le, ← Int32.toInt_inj, Int32.reduceToInt, n_1, n_2, n_8, Int32.toNatClampNeg, Int64.lt_iff_toInt_lt, Int64.le_iff_toInt_le, ← Int64.toInt_inj, Int64.reduceToInt, Int32.toInt_toInt64, lg_cmp_ge, lg_cmp_le, lg_cmp_gt, lg_cmp_lt, lg_cmp_eq, Bool.false_eq_true, Bool.true_eq_false, reduceCtorEq, false_iff, true_iff, iff_true, iff_false, and_true, true_and, and_false, false_and, reduceIte, ite_true, ite_false, eq_self] at *)) <;> omega), (by rw [nxk_gi_si hs3 (by decide)]; first | assumption | (((try simp only [vp_in_iff, Int32.lt_iff_toInt_lt, Int32.le_iff_toInt_le, ← Int32.toInt_inj, Int32.reduceToInt, n_1, n_2, n_8, Int32.toNatClampNeg, Int64.lt_iff_toInt_lt, Int64.le_iff_toInt_le, ← Int64.toInt_inj, Int64.reduceToInt, Int32.toInt_toInt64, lg_cmp_ge, lg_cmp_le, lg_cmp_gt, lg_cmp_lt, lg_cmp_eq, Bool.false_eq_true, Bool.true_eq_false, reduceCtorEq, false_iff, true_iff, iff_true, iff_false, and_true, true_and, and_false, false_and, reduceIte, ite_true, ite_false, eq_self] at *)) <;> omega)), (by rw [nxk_gi_si hs3 (by decide)]; first | assumption | (((try simp only [vp_in_iff, Int32.lt_iff_toInt_lt, Int32.le_iff_toInt_le, ← Int32.toInt_inj, Int32.reduceToInt, n_1, n_2, n_8, Int32.toNatClampNeg, Int64.lt_iff_toInt_lt, Int64.le_iff_toInt_le, ← Int64.toInt_inj, Int64.reduceToInt, Int32.toInt_toInt64, lg_cmp_ge, lg_cmp_le, lg_cmp_gt, lg_cmp_lt, lg_cmp_eq, Bool.false_eq_true, Bool.true_eq_false, reduceCtorEq, false_iff, true_iff, iff_true, iff_false, and_true, true_and, and_false, false_and, reduceIte, ite_true, ite_false, eq_self] at *)) <;> omega)), trivial⟩ rfl
    · refine wa_iconst (v := 0) (by decide) ?_
      refine wa_ireturn rfl rfl ?_
      exact ⟨_, rfl, Fs3, (by rw [nxk_gi_si hs3 (by decide)]; first | assumption | (((try simp only [vp_in_iff, Int32.lt_iff_toInt_lt, Int32.le_iff_toInt_le, ← Int32.toInt_inj, Int32.reduceToInt, n_1, n_2, n_8, Int32.toNatClampNeg, Int64.lt_iff_toInt_lt, Int64.le_iff_toInt_le, ← Int64.toInt_inj, Int64.reduceToInt, Int32.toInt_toInt64, lg_cmp_ge, lg_cmp_le, lg_cmp_gt, lg_cmp_lt, lg_cmp_eq, Bool.false_eq_true, Bool.true_eq_false, reduceCtorEq, false_iff, true_iff, iff_true, iff_false, and_true, true_and, and_false, false_and, reduceIte, ite_true, ite_false, eq_self] at *)) <;> omega)), trivial⟩
  · refine wa_iconst (v := 1) (by decide) ?_
    refine wa_goto o_X12_feed_19 (by decide) ?_
    refine wa_puti ck_12 fl_12_3 ly_84 (fun s58 hs58 => ?_)
    have Fs58 : Fm [208] [0, 2] σ s58 := by rw [hs58]; exact Fm.si (Fm.rf [208] [0, 2] σ) rfl
    refine wa_aload_n (i := 0) rfl rfl ?_
    refine wa_geti ck_12 fl_12_3 ly_84 ?_
    refine wa_rw (nxe_gi_si hs58) ?_
    refine wa_if_le o_X12_feed_31 (by decide) (fun h59 => ?_) (fun h59 => ?_)
    · refine wa_iconst (v := 0) (by decide) ?_
      refine wa_istoreD (lv' := [(6, .int 0), (0, .ref 84), (1, .int a0), (2, .int a1), (3, .int a2), (4, .int a3), (5, .int a4)]) (by decide) rfl ?_
      refine wa_pick [1, 2, 3, 4, 5, 6, 0] rfl ?_
      have hi62 : ∀ (n9_34 : Nat) (l6 : Int32) (s60 : St), ((Fm [208] [0, 2] σ s60) ∧ (gi s60 84 0 = (1 : Int32)) ∧ (0 ≤ l6.toInt) ∧ ((gi s60 84 2).toInt ≤ 1980 + l6.toInt) ∧ (0 ≤ (gi s60 84 2).toInt ∧ (gi s60 84 2).toInt ≤ 2000) ∧ (True)) → (2147483647 - l6.toInt).toNat = n9_34 → WA G M_X12_feed (ZM G M_X12_feed d (fun r σ' => ∃ x : Int32, r = some (.int x) ∧ Fm [208] [0, 2] σ σ' ∧ (0 ≤ (gi σ' 84 2).toInt ∧ (gi σ' 84 2).toInt ≤ 2000) ∧ True)) B_X12_feed_34 [(0, .ref 84), (1, .int a0), (2, .int a1), (3, .int a2), (4, .int a3), (5, .int a4), (6, .int l6)] [] s60 := by
        intro n9_34
        induction n9_34 using Nat.strongRecOn with
        | _ n9_34 ih61 =>
          intro l6 s60 i9 m9_34
          obtain ⟨Fs60, khi62_0, jhi62_0, jhi62_1, jhi62_2, -⟩ := i9
          have ul6 := Int32.toInt_lt l6
          have wl6 := Int32.le_toInt l6
          refine wa_iload rfl ?_
          refine wa_bipush (v := 20) (by decide) ?_
          refine wa_icmp_ge o_X12_feed_128 (by decide) (fun h63 => ?_) (fun h63 => ?_)
          · refine wa_aload_n (i := 0) rfl rfl ?_
            refine wa_geti ck_12 fl_12_485 ly_84 ?_
            refine wa_ireturn rfl rfl ?_
            exact ⟨_, rfl, Fs60, (by first | assumption | (((try simp only [vp_in_iff, Int32.lt_iff_toInt_lt, Int32.le_iff_toInt_le, ← Int32.toInt_inj, Int32.reduceToInt, n_1, n_2, n_8, Int32.toNatClampNeg, Int64.lt_iff_toInt_lt, Int64.le_iff_toInt_le, ← Int64.toInt_inj, Int64.reduceToInt, Int32.toInt_toInt64, lg_cmp_ge, lg_cmp_le, lg_cmp_gt, lg_cmp_lt, lg_cmp_eq, Bool.false_eq_true, Bool.true_eq_false, reduceCtorEq, false_iff, true_iff, iff_true, iff_false, and_true, true_and, and_false, false_and, reduceIte, ite_true, ite_false, eq_self] at *)) <;> omega)), trivial⟩
          · have mh63 := nle_mx h63
            refine wa_iload rfl ?_
            refine wa_iconst (v := 4) (by decide) ?_
            refine wa_icmp_ge o_X12_feed_51 (by decide) (fun h64 => ?_) (fun h64 => ?_)
            · refine wa_iload rfl ?_
              refine wa_bipush (v := 8) (by decide) ?_
              refine wa_icmp_ge o_X12_feed_62 (by decide) (fun h65 => ?_) (fun h65 => ?_)
              · refine wa_iload rfl ?_
                refine wa_bipush (v := 12) (by decide) ?_
                refine wa_icmp_ge o_X12_feed_73 (by decide) (fun h66 => ?_) (fun h66 => ?_)
                · refine wa_iload rfl ?_
                  refine wa_bipush (v := 16) (by decide) ?_
                  refine wa_icmp_ge o_X12_feed_85 (by decide) (fun h67 => ?_) (fun h67 => ?_)
                  · refine wa_iload rfl ?_
                    refine wa_istoreD (lv' := [(7, .int a4), (0, .ref 84), (1, .int a0), (2, .int a1), (3, .int a2), (4, .int a3), (5, .int a4), (6, .int l6)]) (by decide) rfl ?_
                    refine wa_aload_n (i := 0) rfl rfl ?_
                    refine wa_getr ck_12 fl_12_15 ly_84 rf_84_1 ?_
                    refine wa_aload_n (i := 0) rfl rfl ?_
                    refine wa_geti ck_12 fl_12_485 ly_84 ?_
                    refine wa_iload rfl ?_
                    refine wa_bipush (v := 24) (by decide) ?_
                    refine wa_bipush (v := 8) (by decide) ?_
                    refine wa_iload rfl ?_
                    refine wa_iconst (v := 4) (by decide) ?_
                    refine wa_irem (by ((try simp only [vp_in_iff, Int32.lt_iff_toInt_lt, Int32.le_iff_toInt_le, ← Int32.toInt_inj, Int32.reduceToInt, n_1, n_2, n_8, Int32.toNatClampNeg, Int64.lt_iff_toInt_lt, Int64.le_iff_toInt_le, ← Int64.toInt_inj, Int64.reduceToInt, Int32.toInt_toInt64, lg_cmp_ge, lg_cmp_le, lg_cmp_gt, lg_cmp_lt, lg_cmp_eq, Bool.false_eq_true, Bool.true_eq_false, reduceCtorEq, false_iff, true_iff, iff_true, iff_false, and_true, true_and, and_false, false_and, reduceIte, ite_true, ite_false, eq_self] at *)) <;> omega) ?_
                    refine wa_top (fun v68 hv68 => ?_)
                    have tv68 := i_remU hv68
                    clear hv68
                    refine wa_imul ?_
                    refine wa_top (fun v69 hv69 => ?_)
                    have tv69 := i_mulT hv69
                    clear hv69
                    refine wa_isub ?_
                    refine wa_top (fun v70 hv70 => ?_)
                    have tv70 := i_subT hv70
                    clear hv70
                    refine wa_ishr ?_
                    refine wa_top (fun v71 hv71 => ?_)
                    clear hv71
                    refine wa_i2b ?_
                    refine wa_top (fun v72 hv72 => ?_)
                    clear hv72
                    refine wa_bast ly_208 (by ((try simp only [vp_in_iff, Int32.lt_iff_toInt_lt, Int32.le_iff_toInt_le, ← Int32.toInt_inj, Int32.reduceToInt, n_1, n_2, n_8, Int32.toNatClampNeg, Int64.lt_iff_toInt_lt, Int64.le_iff_toInt_le, ← Int64.toInt_inj, Int64.reduceToInt, Int32.toInt_toInt64, lg_cmp_ge, lg_cmp_le, lg_cmp_gt, lg_cmp_lt, lg_cmp_eq, Bool.false_eq_true, Bool.true_eq_false, reduceCtorEq, false_iff, true_iff, iff_true, iff_false, and_true, true_and, and_false, false_and, reduceIte, ite_true, ite_false, eq_self] at *)) <;> omega) (fun s73 hs73 => ?_)
                    have Fs73 : Fm [208] [0, 2] σ s73 := by rw [hs73]; exact Fm.sy Fs60 rfl
                    refine wa_aload_n (i := 0) rfl rfl ?_
                    refine wa_dup rfl ?_
                    refine wa_geti ck_12 fl_12_485 ly_84 ?_
                    refine wa_rw (nx_gi_sy hs73) ?_
                    refine wa_iconst (v := 1) (by decide) ?_
                    refine wa_iadd ?_
                    refine wa_top (fun v74 hv74 => ?_)
                    have tv74 := i_addT hv74
                    clear hv74
                    refine wa_puti ck_12 fl_12_485 ly_84 (fun s75 hs75 => ?_)
                    have Fs75 : Fm [208] [0, 2] σ s75 := by rw [hs75]; exact Fm.si Fs73 rfl
                    refine wa_iinc (v := (1)) (lv' := fun y76 => [(6, .int y76), (7, .int a4), (0, .ref 84), (1, .int a0), (2, .int a1), (3, .int a2), (4, .int a3), (5, .int a4)]) (by decide) rfl (by decide) (fun _ => rfl) (fun y76 hy76 => ?_)
                    have ty76 := i_addT hy76.symm
                    clear hy76
                    refine wa_goto o_X12_feed_34 (by decide) ?_
                    refine wa_pick [2, 3, 4, 5, 6, 7, 0] rfl ?_
                    exact ih61 _ (by ((try simp only [vp_in_iff, Int32.lt_iff_toInt_lt, Int32.le_iff_toInt_le, ← Int32.toInt_inj, Int32.reduceToInt, n_1, n_2, n_8, Int32.toNatClampNeg, Int64.lt_iff_toInt_lt, Int64.le_iff_toInt_le, ← Int64.toInt_inj, Int64.reduceToInt, Int32.toInt_toInt64, lg_cmp_ge, lg_cmp_le, lg_cmp_gt, lg_cmp_lt, lg_cmp_eq, Bool.false_eq_true, Bool.true_eq_false, reduceCtorEq, false_iff, true_iff, iff_true, iff_false, and_true, true_and, and_false, false_and, reduceIte, ite_true, ite_false, eq_self] at *)) <;> omega) _ _ ⟨Fs75, ((nxk_gi_si hs75 (by decide)).trans ((nx_gi_sy hs73).trans (khi62_0))), (by ((try simp only [vp_in_iff, Int32.lt_iff_toInt_lt, Int32.le_iff_toInt_le, ← Int32.toInt_inj, Int32.reduceToInt, n_1, n_2, n_8, Int32.toNatClampNeg, Int64.lt_iff_toInt_lt, Int64.le_iff_toInt_le, ← Int64.toInt_inj, Int64.reduceToInt, Int32.toInt_toInt64, lg_cmp_ge, lg_cmp_le, lg_cmp_gt, lg_cmp_lt, lg_cmp_eq, Bool.false_eq_true, Bool.true_eq_false, reduceCtorEq, false_iff, true_iff, iff_true, iff_false, and_true, true_and, and_false, false_and, reduceIte, ite_true, ite_false, eq_self] at *)) <;> omega), (by rw [nxe_gi_si hs75]; first | assumption | (((try simp only [vp_in_iff, Int32.lt_iff_toInt_lt, Int32.le_iff_toInt_le, ← Int32.toInt_inj, Int32.reduceToInt, n_1, n_2, n_8, Int32.toNatClampNeg, Int64.lt_iff_toInt_lt, Int64.le_iff_toInt_le, ← Int64.toInt_inj, Int64.reduceToInt, Int32.toInt_toInt64, lg_cmp_ge, lg_cmp_le, lg_cmp_gt, lg_cmp_lt, lg_cmp_eq, Bool.false_eq_true, Bool.true_eq_false, reduceCtorEq, false_iff, true_iff, iff_true, iff_false, and_true, true_and, and_false, false_and, reduceIte, ite_true, ite_false, eq_self] at *)) <;> omega)), (by rw [nxe_gi_si hs75]; first | assumption | (((try simp only [vp_in_iff, Int32.lt_iff_toInt_lt, Int32.le_iff_toInt_le, ← Int32.toInt_inj, Int32.reduceToInt, n_1, n_2, n_8, Int32.toNatClampNeg, Int64.lt_iff_toInt_lt, Int64.le_iff_toInt_le, ← Int64.toInt_inj, Int64.reduceToInt, Int32.toInt_toInt64, lg_cmp_ge, lg_cmp_le, lg_cmp_gt, lg_cmp_lt, lg_cmp_eq, Bool.false_eq_true, Bool.true_eq_false, reduceCtorEq, false_iff, true_iff, iff_true, iff_false, and_true, true_and, and_false, false_and, reduceIte, ite_true, ite_false, eq_self] at *)) <;> omega)), trivial⟩ rfl
                  · have mh67 := nle_mx h67
                    refine wa_iload rfl ?_
                    refine wa_goto o_X12_feed_87 (by decide) ?_
                    refine wa_istoreD (lv' := [(7, .int a3), (0, .ref 84), (1, .int a0), (2, .int a1), (3, .int a2), (4, .int a3), (5, .int a4), (6, .int l6)]) (by decide) rfl ?_
                    refine wa_aload_n (i := 0) rfl rfl ?_
                    refine wa_getr ck_12 fl_12_15 ly_84 rf_84_1 ?_
                    refine wa_aload_n (i := 0) rfl rfl ?_
                    refine wa_geti ck_12 fl_12_485 ly_84 ?_
                    refine wa_iload rfl ?_
                    refine wa_bipush (v := 24) (by decide) ?_
                    refine wa_bipush (v := 8) (by decide) ?_
                    refine wa_iload rfl ?_
                    refine wa_iconst (v := 4) (by decide) ?_
                    refine wa_irem (by ((try simp only [vp_in_iff, Int32.lt_iff_toInt_lt, Int32.le_iff_toInt_le, ← Int32.toInt_inj, Int32.reduceToInt, n_1, n_2, n_8, Int32.toNatClampNeg, Int64.lt_iff_toInt_lt, Int64.le_iff_toInt_le, ← Int64.toInt_inj, Int64.reduceToInt, Int32.toInt_toInt64, lg_cmp_ge, lg_cmp_le, lg_cmp_gt, lg_cmp_lt, lg_cmp_eq, Bool.false_eq_true, Bool.true_eq_false, reduceCtorEq, false_iff, true_iff, iff_true, iff_false, and_true, true_and, and_false, false_and, reduceIte, ite_true, ite_false, eq_self] at *)) <;> omega) ?_
                    refine wa_top (fun v77 hv77 => ?_)
                    have tv77 := i_remU hv77
                    clear hv77
                    refine wa_imul ?_
                    refine wa_top (fun v78 hv78 => ?_)
                    have tv78 := i_mulT hv78
                    clear hv78
                    refine wa_isub ?_
                    refine wa_top (fun v79 hv79 => ?_)
                    have tv79 := i_subT hv79
                    clear hv79
                    refine wa_ishr ?_
                    refine wa_top (fun v80 hv80 => ?_)
                    clear hv80
                    refine wa_i2b ?_
                    refine wa_top (fun v81 hv81 => ?_)
                    clear hv81
                    refine wa_bast ly_208 (by ((try simp only [vp_in_iff, Int32.lt_iff_toInt_lt, Int32.le_iff_toInt_le, ← Int32.toInt_inj, Int32.reduceToInt, n_1, n_2, n_8, Int32.toNatClampNeg, Int64.lt_iff_toInt_lt, Int64.le_iff_toInt_le, ← Int64.toInt_inj, Int64.reduceToInt, Int32.toInt_toInt64, lg_cmp_ge, lg_cmp_le, lg_cmp_gt, lg_cmp_lt, lg_cmp_eq, Bool.false_eq_true, Bool.true_eq_false, reduceCtorEq, false_iff, true_iff, iff_true, iff_false, and_true, true_and, and_false, false_and, reduceIte, ite_true, ite_false, eq_self] at *)) <;> omega) (fun s82 hs82 => ?_)
                    have Fs82 : Fm [208] [0, 2] σ s82 := by rw [hs82]; exact Fm.sy Fs60 rfl
                    refine wa_aload_n (i := 0) rfl rfl ?_
                    refine wa_dup rfl ?_
                    refine wa_geti ck_12 fl_12_485 ly_84 ?_
                    refine wa_rw (nx_gi_sy hs82) ?_
                    refine wa_iconst (v := 1) (by decide) ?_
                    refine wa_iadd ?_
                    refine wa_top (fun v83 hv83 => ?_)
                    have tv83 := i_addT hv83
                    clear hv83
                    refine wa_puti ck_12 fl_12_485 ly_84 (fun s84 hs84 => ?_)
                    have Fs84 : Fm [208] [0, 2] σ s84 := by rw [hs84]; exact Fm.si Fs82 rfl
                    refine wa_iinc (v := (1)) (lv' := fun y85 => [(6, .int y85), (7, .int a3), (0, .ref 84), (1, .int a0), (2, .int a1), (3, .int a2), (4, .int a3), (5, .int a4)]) (by decide) rfl (by decide) (fun _ => rfl) (fun y85 hy85 => ?_)
                    have ty85 := i_addT hy85.symm
                    clear hy85
                    refine wa_goto o_X12_feed_34 (by decide) ?_
                    refine wa_pick [2, 3, 4, 5, 6, 7, 0] rfl ?_
                    exact ih61 _ (by ((try simp only [vp_in_iff, Int32.lt_iff_toInt_lt, Int32.le_iff_toInt_le, ← Int32.toInt_inj, Int32.reduceToInt, n_1, n_2, n_8, Int32.toNatClampNeg, Int64.lt_iff_toInt_lt, Int64.le_iff_toInt_le, ← Int64.toInt_inj, Int64.reduceToInt, Int32.toInt_toInt64, lg_cmp_ge, lg_cmp_le, lg_cmp_gt, lg_cmp_lt, lg_cmp_eq, Bool.false_eq_true, Bool.true_eq_false, reduceCtorEq, false_iff, true_iff, iff_true, iff_false, and_true, true_and, and_false, false_and, reduceIte, ite_true, ite_false, eq_self] at *)) <;> omega) _ _ ⟨Fs84, ((nxk_gi_si hs84 (by decide)).trans ((nx_gi_sy hs82).trans (khi62_0))), (by ((try simp only [vp_in_iff, Int32.lt_iff_toInt_lt, Int32.le_iff_toInt_le, ← Int32.toInt_inj, Int32.reduceToInt, n_1, n_2, n_8, Int32.toNatClampNeg, Int64.lt_iff_toInt_lt, Int64.le_iff_toInt_le, ← Int64.toInt_inj, Int64.reduceToInt, Int32.toInt_toInt64, lg_cmp_ge, lg_cmp_le, lg_cmp_gt, lg_cmp_lt, lg_cmp_eq, Bool.false_eq_true, Bool.true_eq_false, reduceCtorEq, false_iff, true_iff, iff_true, iff_false, and_true, true_and, and_false, false_and, reduceIte, ite_true, ite_false, eq_self] at *)) <;> omega), (by rw [nxe_gi_si hs84]; first | assumption | (((try simp only [vp_in_iff, Int32.lt_iff_toInt_lt, Int32.le_iff_toInt_le, ← Int32.toInt_inj, Int32.reduceToInt, n_1, n_2, n_8, Int32.toNatClampNeg, Int64.lt_iff_toInt_lt, Int64.le_iff_toInt_le, ← Int64.toInt_inj, Int64.reduceToInt, Int32.toInt_toInt64, lg_cmp_ge, lg_cmp_le, lg_cmp_gt, lg_cmp_lt, lg_cmp_eq, Bool.false_eq_true, Bool.true_eq_false, reduceCtorEq, false_iff, true_iff, iff_true, iff_false, and_true, true_and, and_false, false_and, reduceIte, ite_true, ite_false, eq_self] at *)) <;> omega)), (by rw [nxe_gi_si hs84]; first | assumption | (((try simp only [vp_in_iff, Int32.lt_iff_toInt_lt, Int32.le_iff_toInt_le, ← Int32.toInt_inj, Int32.reduceToInt, n_1, n_2, n_8, Int32.toNatClampNeg, Int64.lt_iff_toInt_lt, Int64.le_iff_toInt_le, ← Int64.toInt_inj, Int64.reduceToInt, Int32.toInt_toInt64, lg_cmp_ge, lg_cmp_le, lg_cmp_gt, lg_cmp_lt, lg_cmp_eq, Bool.false_eq_true, Bool.true_eq_false, reduceCtorEq, false_iff, true_iff, iff_true, iff_false, and_true, true_and, and_false, false_and, reduceIte, ite_true, ite_false, eq_self] at *)) <;> omega)), trivial⟩ rfl
                · have mh66 := nle_mx h66
                  refine wa_iload_n (i := 3) rfl rfl ?_
                  refine wa_goto o_X12_feed_87 (by decide) ?_
                  refine wa_istoreD (lv' := [(7, .int a2), (0, .ref 84), (1, .int a0), (2, .int a1), (3, .int a2), (4, .int a3), (5, .int a4), (6, .int l6)]) (by decide) rfl ?_
                  refine wa_aload_n (i := 0) rfl rfl ?_
                  refine wa_getr ck_12 fl_12_15 ly_84 rf_84_1 ?_
                  refine wa_aload_n (i := 0) rfl rfl ?_
                  refine wa_geti ck_12 fl_12_485 ly_84 ?_
                  refine wa_iload rfl ?_
                  refine wa_bipush (v := 24) (by decide) ?_
                  refine wa_bipush (v := 8) (by decide) ?_
                  refine wa_iload rfl ?_
                  refine wa_iconst (v := 4) (by decide) ?_
                  refine wa_irem (by ((try simp only [vp_in_iff, Int32.lt_iff_toInt_lt, Int32.le_iff_toInt_le, ← Int32.toInt_inj, Int32.reduceToInt, n_1, n_2, n_8, Int32.toNatClampNeg, Int64.lt_iff_toInt_lt, Int64.le_iff_toInt_le, ← Int64.toInt_inj, Int64.reduceToInt, Int32.toInt_toInt64, lg_cmp_ge, lg_cmp_le, lg_cmp_gt, lg_cmp_lt, lg_cmp_eq, Bool.false_eq_true, Bool.true_eq_false, reduceCtorEq, false_iff, true_iff, iff_true, iff_false, and_true, true_and, and_false, false_and, reduceIte, ite_true, ite_false, eq_self] at *)) <;> omega) ?_
                  refine wa_top (fun v86 hv86 => ?_)
                  have tv86 := i_remU hv86
                  clear hv86
                  refine wa_imul ?_
                  refine wa_top (fun v87 hv87 => ?_)
                  have tv87 := i_mulT hv87
                  clear hv87
                  refine wa_isub ?_
                  refine wa_top (fun v88 hv88 => ?_)
                  have tv88 := i_subT hv88
                  clear hv88
                  refine wa_ishr ?_
                  refine wa_top (fun v89 hv89 => ?_)
                  clear hv89
                  refine wa_i2b ?_
                  refine wa_top (fun v90 hv90 => ?_)
                  clear hv90
                  refine wa_bast ly_208 (by ((try simp only [vp_in_iff, Int32.lt_iff_toInt_lt, Int32.le_iff_toInt_le, ← Int32.toInt_inj, Int32.reduceToInt, n_1, n_2, n_8, Int32.toNatClampNeg, Int64.lt_iff_toInt_lt, Int64.le_iff_toInt_le, ← Int64.toInt_inj, Int64.reduceToInt, Int32.toInt_toInt64, lg_cmp_ge, lg_cmp_le, lg_cmp_gt, lg_cmp_lt, lg_cmp_eq, Bool.false_eq_true, Bool.true_eq_false, reduceCtorEq, false_iff, true_iff, iff_true, iff_false, and_true, true_and, and_false, false_and, reduceIte, ite_true, ite_false, eq_self] at *)) <;> omega) (fun s91 hs91 => ?_)
                  have Fs91 : Fm [208] [0, 2] σ s91 := by rw [hs91]; exact Fm.sy Fs60 rfl
                  refine wa_aload_n (i := 0) rfl rfl ?_
                  refine wa_dup rfl ?_
                  refine wa_geti ck_12 fl_12_485 ly_84 ?_
                  refine wa_rw (nx_gi_sy hs91) ?_
                  refine wa_iconst (v := 1) (by decide) ?_
                  refine wa_iadd ?_
                  refine wa_top (fun v92 hv92 => ?_)
                  have tv92 := i_addT hv92
                  clear hv92
                  refine wa_puti ck_12 fl_12_485 ly_84 (fun s93 hs93 => ?_)
                  have Fs93 : Fm [208] [0, 2] σ s93 := by rw [hs93]; exact Fm.si Fs91 rfl
                  refine wa_iinc (v := (1)) (lv' := fun y94 => [(6, .int y94), (7, .int a2), (0, .ref 84), (1, .int a0), (2, .int a1), (3, .int a2), (4, .int a3), (5, .int a4)]) (by decide) rfl (by decide) (fun _ => rfl) (fun y94 hy94 => ?_)
                  have ty94 := i_addT hy94.symm
                  clear hy94
                  refine wa_goto o_X12_feed_34 (by decide) ?_
                  refine wa_pick [2, 3, 4, 5, 6, 7, 0] rfl ?_
                  exact ih61 _ (by ((try simp only [vp_in_iff, Int32.lt_iff_toInt_lt, Int32.le_iff_toInt_le, ← Int32.toInt_inj, Int32.reduceToInt, n_1, n_2, n_8, Int32.toNatClampNeg, Int64.lt_iff_toInt_lt, Int64.le_iff_toInt_le, ← Int64.toInt_inj, Int64.reduceToInt, Int32.toInt_toInt64, lg_cmp_ge, lg_cmp_le, lg_cmp_gt, lg_cmp_lt, lg_cmp_eq, Bool.false_eq_true, Bool.true_eq_false, reduceCtorEq, false_iff, true_iff, iff_true, iff_false, and_true, true_and, and_false, false_and, reduceIte, ite_true, ite_false, eq_self] at *)) <;> omega) _ _ ⟨Fs93, ((nxk_gi_si hs93 (by decide)).trans ((nx_gi_sy hs91).trans (khi62_0))), (by ((try simp only [vp_in_iff, Int32.lt_iff_toInt_lt, Int32.le_iff_toInt_le, ← Int32.toInt_inj, Int32.reduceToInt, n_1, n_2, n_8, Int32.toNatClampNeg, Int64.lt_iff_toInt_lt, Int64.le_iff_toInt_le, ← Int64.toInt_inj, Int64.reduceToInt, Int32.toInt_toInt64, lg_cmp_ge, lg_cmp_le, lg_cmp_gt, lg_cmp_lt, lg_cmp_eq, Bool.false_eq_true, Bool.true_eq_false, reduceCtorEq, false_iff, true_iff, iff_true, iff_false, and_true, true_and, and_false, false_and, reduceIte, ite_true, ite_false, eq_self] at *)) <;> omega), (by rw [nxe_gi_si hs93]; first | assumption | (((try simp only [vp_in_iff, Int32.lt_iff_toInt_lt, Int32.le_iff_toInt_le, ← Int32.toInt_inj, Int32.reduceToInt, n_1, n_2, n_8, Int32.toNatClampNeg, Int64.lt_iff_toInt_lt, Int64.le_iff_toInt_le, ← Int64.toInt_inj, Int64.reduceToInt, Int32.toInt_toInt64, lg_cmp_ge, lg_cmp_le, lg_cmp_gt, lg_cmp_lt, lg_cmp_eq, Bool.false_eq_true, Bool.true_eq_false, reduceCtorEq, false_iff, true_iff, iff_true, iff_false, and_true, true_and, and_false, false_and, reduceIte, ite_true, ite_false, eq_self] at *)) <;> omega)), (by rw [nxe_gi_si hs93]; first | assumption | (((try simp only [vp_in_iff, Int32.lt_iff_toInt_lt, Int32.le_iff_toInt_le, ← Int32.toInt_inj, Int32.reduceToInt, n_1, n_2, n_8, Int32.toNatClampNeg, Int64.lt_iff_toInt_lt, Int64.le_iff_toInt_le, ← Int64.toInt_inj, Int64.reduceToInt, Int32.toInt_toInt64, lg_cmp_ge, lg_cmp_le, lg_cmp_gt, lg_cmp_lt, lg_cmp_eq, Bool.false_eq_true, Bool.true_eq_false, reduceCtorEq, false_iff, true_iff, iff_true, iff_false, and_true, true_and, and_false, false_and, reduceIte, ite_true, ite_false, eq_self] at *)) <;> omega)), trivial⟩ rfl
              · have mh65 := nle_mx h65
                refine wa_iload_n (i := 2) rfl rfl ?_
                refine wa_goto o_X12_feed_87 (by decide) ?_
                refine wa_istoreD (lv' := [(7, .int a1), (0, .ref 84), (1, .int a0), (2, .int a1), (3, .int a2), (4, .int a3), (5, .int a4), (6, .int l6)]) (by decide) rfl ?_
                refine wa_aload_n (i := 0) rfl rfl ?_
                refine wa_getr ck_12 fl_12_15 ly_84 rf_84_1 ?_
                refine wa_aload_n (i := 0) rfl rfl ?_
                refine wa_geti ck_12 fl_12_485 ly_84 ?_
                refine wa_iload rfl ?_
                refine wa_bipush (v := 24) (by decide) ?_
                refine wa_bipush (v := 8) (by decide) ?_
                refine wa_iload rfl ?_
                refine wa_iconst (v := 4) (by decide) ?_
                refine wa_irem (by ((try simp only [vp_in_iff, Int32.lt_iff_toInt_lt, Int32.le_iff_toInt_le, ← Int32.toInt_inj, Int32.reduceToInt, n_1, n_2, n_8, Int32.toNatClampNeg, Int64.lt_iff_toInt_lt, Int64.le_iff_toInt_le, ← Int64.toInt_inj, Int64.reduceToInt, Int32.toInt_toInt64, lg_cmp_ge, lg_cmp_le, lg_cmp_gt, lg_cmp_lt, lg_cmp_eq, Bool.false_eq_true, Bool.true_eq_false, reduceCtorEq, false_iff, true_iff, iff_true, iff_false, and_true, true_and, and_false, false_and, reduceIte, ite_true, ite_false, eq_self] at *)) <;> omega) ?_
                refine wa_top (fun v95 hv95 => ?_)
                have tv95 := i_remU hv95
                clear hv95
                refine wa_imul ?_
                refine wa_top (fun v96 hv96 => ?_)
                have tv96 := i_mulT hv96
                clear hv96
                refine wa_isub ?_
                refine wa_top (fun v97 hv97 => ?_)
                have tv97 := i_subT hv97
                clear hv97
                refine wa_ishr ?_
                refine wa_top (fun v98 hv98 => ?_)
                clear hv98
                refine wa_i2b ?_
                refine wa_top (fun v99 hv99 => ?_)
                clear hv99
                refine wa_bast ly_208 (by ((try simp only [vp_in_iff, Int32.lt_iff_toInt_lt, Int32.le_iff_toInt_le, ← Int32.toInt_inj, Int32.reduceToInt, n_1, n_2, n_8, Int32.toNatClampNeg, Int64.lt_iff_toInt_lt, Int64.le_iff_toInt_le, ← Int64.toInt_inj, Int64.reduceToInt, Int32.toInt_toInt64, lg_cmp_ge, lg_cmp_le, lg_cmp_gt, lg_cmp_lt, lg_cmp_eq, Bool.false_eq_true, Bool.true_eq_false, reduceCtorEq, false_iff, true_iff, iff_true, iff_false, and_true, true_and, and_false, false_and, reduceIte, ite_true, ite_false, eq_self] at *)) <;> omega) (fun s100 hs100 => ?_)
                have Fs100 : Fm [208] [0, 2] σ s100 := by rw [hs100]; exact Fm.sy Fs60 rfl
                refine wa_aload_n (i := 0) rfl rfl ?_
                refine wa_dup rfl ?_
                refine wa_geti ck_12 fl_12_485 ly_84 ?_
                refine wa_rw (nx_gi_sy hs100) ?_
                refine wa_iconst (v := 1) (by decide) ?_
                refine wa_iadd ?_
                refine wa_top (fun v101 hv101 => ?_)
                have tv101 := i_addT hv101
                clear hv101
                refine wa_puti ck_12 fl_12_485 ly_84 (fun s102 hs102 => ?_)
                have Fs102 : Fm [208] [0, 2] σ s102 := by rw [hs102]; exact Fm.si Fs100 rfl
                refine wa_iinc (v := (1)) (lv' := fun y103 => [(6, .int y103), (7, .int a1), (0, .ref 84), (1, .int a0), (2, .int a1), (3, .int a2), (4, .int a3), (5, .int a4)]) (by decide) rfl (by decide) (fun _ => rfl) (fun y103 hy103 => ?_)
                have ty103 := i_addT hy103.symm
                clear hy103
                refine wa_goto o_X12_feed_34 (by decide) ?_
                refine wa_pick [2, 3, 4, 5, 6, 7, 0] rfl ?_
                exact ih61 _ (by ((try simp only [vp_in_iff, Int32.lt_iff_toInt_lt, Int32.le_iff_toInt_le, ← Int32.toInt_inj, Int32.reduceToInt, n_1, n_2, n_8, Int32.toNatClampNeg, Int64.lt_iff_toInt_lt, Int64.le_iff_toInt_le, ← Int64.toInt_inj, Int64.reduceToInt, Int32.toInt_toInt64, lg_cmp_ge, lg_cmp_le, lg_cmp_gt, lg_cmp_lt, lg_cmp_eq, Bool.false_eq_true, Bool.true_eq_false, reduceCtorEq, false_iff, true_iff, iff_true, iff_false, and_true, true_and, and_false, false_and, reduceIte, ite_true, ite_false, eq_self] at *)) <;> omega) _ _ ⟨Fs102, ((nxk_gi_si hs102 (by decide)).trans ((nx_gi_sy hs100).trans (khi62_0))), (by ((try simp only [vp_in_iff, Int32.lt_iff_toInt_lt, Int32.le_iff_toInt_le, ← Int32.toInt_inj, Int32.reduceToInt, n_1, n_2, n_8, Int32.toNatClampNeg, Int64.lt_iff_toInt_lt, Int64.le_iff_toInt_le, ← Int64.toInt_inj, Int64.reduceToInt, Int32.toInt_toInt64, lg_cmp_ge, lg_cmp_le, lg_cmp_gt, lg_cmp_lt, lg_cmp_eq, Bool.false_eq_true, Bool.true_eq_false, reduceCtorEq, false_iff, true_iff, iff_true, iff_false, and_true, true_and, and_false, false_and, reduceIte, ite_true, ite_false, eq_self] at *)) <;> omega), (by rw [nxe_gi_si hs102]; first | assumption | (((try simp only [vp_in_iff, Int32.lt_iff_toInt_lt, Int32.le_iff_toInt_le, ← Int32.toInt_inj, Int32.reduceToInt, n_1, n_2, n_8, Int32.toNatClampNeg, Int64.lt_iff_toInt_lt, Int64.le_iff_toInt_le, ← Int64.toInt_inj, Int64.reduceToInt, Int32.toInt_toInt64, lg_cmp_ge, lg_cmp_le, lg_cmp_gt, lg_cmp_lt, lg_cmp_eq, Bool.false_eq_true, Bool.true_eq_false, reduceCtorEq, false_iff, true_iff, iff_true, iff_false, and_true, true_and, and_false, false_and, reduceIte, ite_true, ite_false, eq_self] at *)) <;> omega)), (by rw [nxe_gi_si hs102]; first | assumption | (((try simp only [vp_in_iff, Int32.lt_iff_toInt_lt, Int32.le_iff_toInt_le, ← Int32.toInt_inj, Int32.reduceToInt, n_1, n_2, n_8, Int32.toNatClampNeg, Int64.lt_iff_toInt_lt, Int64.le_iff_toInt_le, ← Int64.toInt_inj, Int64.reduceToInt, Int32.toInt_toInt64, lg_cmp_ge, lg_cmp_le, lg_cmp_gt, lg_cmp_lt, lg_cmp_eq, Bool.false_eq_true, Bool.true_eq_false, reduceCtorEq, false_iff, true_iff, iff_true, iff_false, and_true, true_and, and_false, false_and, reduceIte, ite_true, ite_false, eq_self] at *)) <;> omega)), trivial⟩ rfl
            · have mh64 := nle_mx h64
              refine wa_iload_n (i := 1) rfl rfl ?_
              refine wa_goto o_X12_feed_87 (by decide) ?_
              refine wa_istoreD (lv' := [(7, .int a0), (0, .ref 84), (1, .int a0), (2, .int a1), (3, .int a2), (4, .int a3), (5, .int a4), (6, .int l6)]) (by decide) rfl ?_
              refine wa_aload_n (i := 0) rfl rfl ?_
              refine wa_getr ck_12 fl_12_15 ly_84 rf_84_1 ?_
              refine wa_aload_n (i := 0) rfl rfl ?_
              refine wa_geti ck_12 fl_12_485 ly_84 ?_
              refine wa_iload rfl ?_
              refine wa_bipush (v := 24) (by decide) ?_
              refine wa_bipush (v := 8) (by decide) ?_
              refine wa_iload rfl ?_
              refine wa_iconst (v := 4) (by decide) ?_
              refine wa_irem (by ((try simp only [vp_in_iff, Int32.lt_iff_toInt_lt, Int32.le_iff_toInt_le, ← Int32.toInt_inj, Int32.reduceToInt, n_1, n_2, n_8, Int32.toNatClampNeg, Int64.lt_iff_toInt_lt, Int64.le_iff_toInt_le, ← Int64.toInt_inj, Int64.reduceToInt, Int32.toInt_toInt64, lg_cmp_ge, lg_cmp_le, lg_cmp_gt, lg_cmp_lt, lg_cmp_eq, Bool.false_eq_true, Bool.true_eq_false, reduceCtorEq, false_iff, true_iff, iff_true, iff_false, and_true, true_and, and_false, false_and, reduceIte, ite_true, ite_false, eq_self] at *)) <;> omega) ?_
              refine wa_top (fun v104 hv104 => ?_)
              have tv104 := i_remU hv104
              clear hv104
              refine wa_imul ?_
              refine wa_top (fun v105 hv105 => ?_)
              have tv105 := i_mulT hv105
              clear hv105
              refine wa_isub ?_
              refine wa_top (fun v106 hv106 => ?_)
              have tv106 := i_subT hv106
              clear hv106
              refine wa_ishr ?_
              refine wa_top (fun v107 hv107 => ?_)
              clear hv107
              refine wa_i2b ?_
              refine wa_top (fun v108 hv108 => ?_)
              clear hv108
              refine wa_bast ly_208 (by ((try simp only [vp_in_iff, Int32.lt_iff_toInt_lt, Int32.le_iff_toInt_le, ← Int32.toInt_inj, Int32.reduceToInt, n_1, n_2, n_8, Int32.toNatClampNeg, Int64.lt_iff_toInt_lt, Int64.le_iff_toInt_le, ← Int64.toInt_inj, Int64.reduceToInt, Int32.toInt_toInt64, lg_cmp_ge, lg_cmp_le, lg_cmp_gt, lg_cmp_lt, lg_cmp_eq, Bool.false_eq_true, Bool.true_eq_false, reduceCtorEq, false_iff, true_iff, iff_true, iff_false, and_true, true_and, and_false, false_and, reduceIte, ite_true, ite_false, eq_self] at *)) <;> omega) (fun s109 hs109 => ?_)
              have Fs109 : Fm [208] [0, 2] σ s109 := by rw [hs109]; exact Fm.sy Fs60 rfl
              refine wa_aload_n (i := 0) rfl rfl ?_
              refine wa_dup rfl ?_
              refine wa_geti ck_12 fl_12_485 ly_84 ?_
              refine wa_rw (nx_gi_sy hs109) ?_
              refine wa_iconst (v := 1) (by decide) ?_
              refine wa_iadd ?_
              refine wa_top (fun v110 hv110 => ?_)
              have tv110 := i_addT hv110
              clear hv110
              refine wa_puti ck_12 fl_12_485 ly_84 (fun s111 hs111 => ?_)
              have Fs111 : Fm [208] [0, 2] σ s111 := by rw [hs111]; exact Fm.si Fs109 rfl
              refine wa_iinc (v := (1)) (lv' := fun y112 => [(6, .int y112), (7, .int a0), (0, .ref 84), (1, .int a0), (2, .int a1), (3, .int a2), (4, .int a3), (5, .int a4)]) (by decide) rfl (by decide) (fun _ => rfl) (fun y112 hy112 => ?_)
              have ty112 := i_addT hy112.symm
              clear hy112
              refine wa_goto o_X12_feed_34 (by decide) ?_
              refine wa_pick [2, 3, 4, 5, 6, 7, 0] rfl ?_
              exact ih61 _ (by ((try simp only [vp_in_iff, Int32.lt_iff_toInt_lt, Int32.le_iff_toInt_le, ← Int32.toInt_inj, Int32.reduceToInt, n_1, n_2, n_8, Int32.toNatClampNeg, Int64.lt_iff_toInt_lt, Int64.le_iff_toInt_le, ← Int64.toInt_inj, Int64.reduceToInt, Int32.toInt_toInt64, lg_cmp_ge, lg_cmp_le, lg_cmp_gt, lg_cmp_lt, lg_cmp_eq, Bool.false_eq_true, Bool.true_eq_false, reduceCtorEq, false_iff, true_iff, iff_true, iff_false, and_true, true_and, and_false, false_and, reduceIte, ite_true, ite_false, eq_self] at *)) <;> omega) _ _ ⟨Fs111, ((nxk_gi_si hs111 (by decide)).trans ((nx_gi_sy hs109).trans (khi62_0))), (by ((try simp only [vp_in_iff, Int32.lt_iff_toInt_lt, Int32.le_iff_toInt_le, ← Int32.toInt_inj, Int32.reduceToInt, n_1, n_2, n_8, Int32.toNatClampNeg, Int64.lt_iff_toInt_lt, Int64.le_iff_toInt_le, ← Int64.toInt_inj, Int64.reduceToInt, Int32.toInt_toInt64, lg_cmp_ge, lg_cmp_le, lg_cmp_gt, lg_cmp_lt, lg_cmp_eq, Bool.false_eq_true, Bool.true_eq_false, reduceCtorEq, false_iff, true_iff, iff_true, iff_false, and_true, true_and, and_false, false_and, reduceIte, ite_true, ite_false, eq_self] at *)) <;> omega), (by rw [nxe_gi_si hs111]; first | assumption | (((try simp only [vp_in_iff, Int32.lt_iff_toInt_lt, Int32.le_iff_toInt_le, ← Int32.toInt_inj, Int32.reduceToInt, n_1, n_2, n_8, Int32.toNatClampNeg, Int64.lt_iff_toInt_lt, Int64.le_iff_toInt_le, ← Int64.toInt_inj, Int64.reduceToInt, Int32.toInt_toInt64, lg_cmp_ge, lg_cmp_le, lg_cmp_gt, lg_cmp_lt, lg_cmp_eq, Bool.false_eq_true, Bool.true_eq_false, reduceCtorEq, false_iff, true_iff, iff_true, iff_false, and_true, true_and, and_false, false_and, reduceIte, ite_true, ite_false, eq_self] at *)) <;> omega)), (by rw [nxe_gi_si hs111]; first | assumption | (((try simp only [vp_in_iff, Int32.lt_iff_toInt_lt, Int32.le_iff_toInt_le, ← Int32.toInt_inj, Int32.reduceToInt, n_1, n_2, n_8, Int32.toNatClampNeg, Int64.lt_iff_toInt_lt, Int64.le_iff_toInt_le, ← Int64.toInt_inj, Int64.reduceToInt, Int32.toInt_toInt64, lg_cmp_ge, lg_cmp_le, lg_cmp_gt, lg_cmp_lt, lg_cmp_eq, Bool.false_eq_true, Bool.true_eq_false, reduceCtorEq, false_iff, true_iff, iff_true, iff_false, and_true, true_and, and_false, false_and, reduceIte, ite_true, ite_false, eq_self] at *)) <;> omega)), trivial⟩ rfl
      exact hi62 _ _ _ ⟨Fs58, (nxe_gi_si hs58), (by ((try simp only [vp_in_iff, Int32.lt_iff_toInt_lt, Int32.le_iff_toInt_le, ← Int32.toInt_inj, Int32.reduceToInt, n_1, n_2, n_8, Int32.toNatClampNeg, Int64.lt_iff_toInt_lt, Int64.le_iff_toInt_le, ← Int64.toInt_inj, Int64.reduceToInt, Int32.toInt_toInt64, lg_cmp_ge, lg_cmp_le, lg_cmp_gt, lg_cmp_lt, lg_cmp_eq, Bool.false_eq_true, Bool.true_eq_false, reduceCtorEq, false_iff, true_iff, iff_true, iff_false, and_true, true_and, and_false, false_and, reduceIte, ite_true, ite_false, eq_self] at *)) <;> omega), (by rw [nxk_gi_si hs58 (by decide)]; first | assumption | (((try simp only [vp_in_iff, Int32.lt_iff_toInt_lt, Int32.le_iff_toInt_le, ← Int32.toInt_inj, Int32.reduceToInt, n_1, n_2, n_8, Int32.toNatClampNeg, Int64.lt_iff_toInt_lt, Int64.le_iff_toInt_le, ← Int64.toInt_inj, Int64.reduceToInt, Int32.toInt_toInt64, lg_cmp_ge, lg_cmp_le, lg_cmp_gt, lg_cmp_lt, lg_cmp_eq, Bool.false_eq_true, Bool.true_eq_false, reduceCtorEq, false_iff, true_iff, iff_true, iff_false, and_true, true_and, and_false, false_and, reduceIte, ite_true, ite_false, eq_self] at *)) <;> omega)), (by rw [nxk_gi_si hs58 (by decide)]; first | assumption | (((try simp only [vp_in_iff, Int32.lt_iff_toInt_lt, Int32.le_iff_toInt_le, ← Int32.toInt_inj, Int32.reduceToInt, n_1, n_2, n_8, Int32.toNatClampNeg, Int64.lt_iff_toInt_lt, Int64.le_iff_toInt_le, ← Int64.toInt_inj, Int64.reduceToInt, Int32.toInt_toInt64, lg_cmp_ge, lg_cmp_le, lg_cmp_gt, lg_cmp_lt, lg_cmp_eq, Bool.false_eq_true, Bool.true_eq_false, reduceCtorEq, false_iff, true_iff, iff_true, iff_false, and_true, true_and, and_false, false_and, reduceIte, ite_true, ite_false, eq_self] at *)) <;> omega)), trivial⟩ rfl
    · refine wa_iconst (v := 0) (by decide) ?_
      refine wa_ireturn rfl rfl ?_
      exact ⟨_, rfl, Fs58, (by rw [nxk_gi_si hs58 (by decide)]; first | assumption | (((try simp only [vp_in_iff, Int32.lt_iff_toInt_lt, Int32.le_iff_toInt_le, ← Int32.toInt_inj, Int32.reduceToInt, n_1, n_2, n_8, Int32.toNatClampNeg, Int64.lt_iff_toInt_lt, Int64.le_iff_toInt_le, ← Int64.toInt_inj, Int64.reduceToInt, Int32.toInt_toInt64, lg_cmp_ge, lg_cmp_le, lg_cmp_gt, lg_cmp_lt, lg_cmp_eq, Bool.false_eq_true, Bool.true_eq_false, reduceCtorEq, false_iff, true_iff, iff_true, iff_false, and_true, true_and, and_false, false_and, reduceIte, ite_true, ite_false, eq_self] at *)) <;> omega)), trivial⟩
set_option maxHeartbeats 4000000 in
theorem sp_X12_in (G : kG9) {d : Nat} (hd : 0 ≤ d) (σ : St) (a0 : Int64) (a1 : Int64) (a2 : Int64) : Ct G M_X12_in d [.long a0, .long a1, .long a2] σ (fun r σ' => ∃ x : Bool, r = some (.int (bI x)) ∧ σ = σ' ∧ (x = true ↔ a1.toInt ≤ a0.toInt ∧ a0.toInt ≤ a2.toInt) ∧ True) := by
  refine wa_start (by decide) rfl (Nat.le_of_ble_eq_true rfl) (lv := [(0, .long a0), (2, .long a1), (4, .long a2)]) rfl o_X12_in_0 rfl ?_
  refine wa_lload_n (i := 0) rfl rfl ?_
  refine wa_lload_n (i := 2) rfl rfl ?_
  refine wa_lcmp ?_
  refine wa_top (fun v1 hv1 => ?_)
  have tv1 := i_cmpT hv1
  clear hv1
  refine wa_if_lt o_X12_in_17 (by decide) (fun h2 => ?_) (fun h2 => ?_)
  · refine wa_iconst (v := 0) (by decide) ?_
    refine wa_zreturn false (rfl) rfl rfl ?_
    exact ⟨_, rfl, rfl, (by ((try simp only [vp_in_iff, Int32.lt_iff_toInt_lt, Int32.le_iff_toInt_le, ← Int32.toInt_inj, Int32.reduceToInt, n_1, n_2, n_8, Int32.toNatClampNeg, Int64.lt_iff_toInt_lt, Int64.le_iff_toInt_le, ← Int64.toInt_inj, Int64.reduceToInt, Int32.toInt_toInt64, lg_cmp_ge, lg_cmp_le, lg_cmp_gt, lg_cmp_lt, lg_cmp_eq, Bool.false_eq_true, Bool.true_eq_false, reduceCtorEq, false_iff, true_iff, iff_true, iff_false, and_true, true_and, and_false, false_and, reduceIte, ite_true, ite_false, eq_self] at *)) <;> omega), trivial⟩
  · refine wa_lload_n (i := 0) rfl rfl ?_
    refine wa_lload rfl ?_
    refine wa_lcmp ?_
    refine wa_top (fun v3 hv3 => ?_)
    have tv3 := i_cmpT hv3
    clear hv3
    refine wa_if_gt o_X12_in_17 (by decide) (fun h4 => ?_) (fun h4 => ?_)
    · refine wa_iconst (v := 0) (by decide) ?_
      refine wa_zreturn false (rfl) rfl rfl ?_
      exact ⟨_, rfl, rfl, (by ((try simp only [vp_in_iff, Int32.lt_iff_toInt_lt, Int32.le_iff_toInt_le, ← Int32.toInt_inj, Int32.reduceToInt, n_1, n_2, n_8, Int32.toNatClampNeg, Int64.lt_iff_toInt_lt, Int64.le_iff_toInt_le, ← Int64.toInt_inj, Int64.reduceToInt, Int32.toInt_toInt64, lg_cmp_ge, lg_cmp_le, lg_cmp_gt, lg_cmp_lt, lg_cmp_eq, Bool.false_eq_true, Bool.true_eq_false, reduceCtorEq, false_iff, true_iff, iff_true, iff_false, and_true, true_and, and_false, false_and, reduceIte, ite_true, ite_false, eq_self] at *)) <;> omega), trivial⟩
    · refine wa_iconst (v := 1) (by decide) ?_
      refine wa_goto o_X12_in_18 (by decide) ?_
      refine wa_zreturn true (rfl) rfl rfl ?_
      exact ⟨_, rfl, rfl, (by ((try simp only [vp_in_iff, Int32.lt_iff_toInt_lt, Int32.le_iff_toInt_le, ← Int32.toInt_inj, Int32.reduceToInt, n_1, n_2, n_8, Int32.toNatClampNeg, Int64.lt_iff_toInt_lt, Int64.le_iff_toInt_le, ← Int64.toInt_inj, Int64.reduceToInt, Int32.toInt_toInt64, lg_cmp_ge, lg_cmp_le, lg_cmp_gt, lg_cmp_lt, lg_cmp_eq, Bool.false_eq_true, Bool.true_eq_false, reduceCtorEq, false_iff, true_iff, iff_true, iff_false, and_true, true_and, and_false, false_and, reduceIte, ite_true, ite_false, eq_self] at *)) <;> omega), trivial⟩
set_option maxHeartbeats 4000000 in
theorem sp_X12_end (G : kG9) {d : Nat} (hd : 1 ≤ d) (σ : St) (a0 : Int32) (r1 : 0 ≤ (gi σ 84 2).toInt ∧ (gi σ 84 2).toInt ≤ 2000) : Ct G M_X12_end d [.ref 84, .int a0] σ (fun r σ' => Fm [] [0, 2] σ σ' ∧ (0 ≤ (gi σ' 84 2).toInt ∧ (gi σ' 84 2).toInt ≤ 2000) ∧ True) := by
  refine wa_start (by decide) rfl (Nat.le_of_ble_eq_true rfl) (lv := [(0, .ref 84), (1, .int a0)]) rfl o_X12_end_0 rfl ?_
  have ua0 := Int32.toInt_lt a0
  have wa0 := Int32.le_toInt a0
  refine wa_aload_n (i := 0) rfl rfl ?_
  refine wa_iload_n (i := 1) rfl rfl ?_
  refine wa_i2l ?_
  refine wa_lconst (v := 0) (by decide) ?_
  refine wa_aload_n (i := 0) rfl rfl ?_
  refine wa_geti ck_12 fl_12_485 ly_84 ?_
  refine wa_i2l ?_
  refine wa_Si (d9 := d - 1) [.long _, .long _, .long _] [.ref 84] (sp_X12_in G (d := d - 1) (by omega) σ _ _ _) (rfl) rfl rfl (zr (by omega)) mk_X12_in ml_12_504 (Nat.le_of_ble_eq_true rfl) (fun x2 s1 hs1 => ?_)
  obtain ⟨bx2, ex2, zs1, cx2_1, -⟩ := pB hs1
  subst ex2
  subst zs1
  refine wa_if_eq o_X12_end_19 (by decide) (fun h3 => ?_) (fun h3 => ?_)
  · replace h3 := bI_f (b := bx2) (rfl) h3
    have uh3_0 := iff_f cx2_1 h3
    refine wa_iconst (v := 1) (by decide) ?_
    refine wa_puti ck_12 fl_12_3 ly_84 (fun s4 hs4 => ?_)
    have Fs4 : Fm [] [0, 2] σ s4 := by rw [hs4]; exact Fm.si (Fm.rf [] [0, 2] σ) rfl
    refine wa_aload_n (i := 0) rfl rfl ?_
    refine wa_aload_n (i := 0) rfl rfl ?_
    refine wa_geti ck_12 fl_12_3 ly_84 ?_
    refine wa_rw (nxe_gi_si hs4) ?_
    refine wa_if_le o_X12_end_38 (by decide) (fun h5 => ?_) (fun h5 => ?_)
    · refine wa_iload_n (i := 1) rfl rfl ?_
      refine wa_puti ck_12 fl_12_485 ly_84 (fun s6 hs6 => ?_)
      have Fs6 : Fm [] [0, 2] σ s6 := by rw [hs6]; exact Fm.si Fs4 rfl
      refine wa_return (st := []) rfl rfl ?_
      exact ⟨Fs6, (by rw [nxe_gi_si hs6]; first | assumption | (((try simp only [vp_in_iff, Int32.lt_iff_toInt_lt, Int32.le_iff_toInt_le, ← Int32.toInt_inj, Int32.reduceToInt, n_1, n_2, n_8, Int32.toNatClampNeg, Int64.lt_iff_toInt_lt, Int64.le_iff_toInt_le, ← Int64.toInt_inj, Int64.reduceToInt, Int32.toInt_toInt64, lg_cmp_ge, lg_cmp_le, lg_cmp_gt, lg_cmp_lt, lg_cmp_eq, Bool.false_eq_true, Bool.true_eq_false, reduceCtorEq, false_iff, true_iff, iff_true, iff_false, and_true, true_and, and_false, false_and, reduceIte, ite_true, ite_false, eq_self] at *)) <;> omega)), trivial⟩
    · refine wa_aload_n (i := 0) rfl rfl ?_
      refine wa_geti ck_12 fl_12_485 ly_84 ?_
      refine wa_rw (nxk_gi_si hs4 (by decide)) ?_
      refine wa_goto o_X12_end_39 (by decide) ?_
      refine wa_puti ck_12 fl_12_485 ly_84 (fun s7 hs7 => ?_)
      have Fs7 : Fm [] [0, 2] σ s7 := by rw [hs7]; exact Fm.si Fs4 rfl
      refine wa_return (st := []) rfl rfl ?_
      exact ⟨Fs7, (by rw [nxe_gi_si hs7]; first | assumption | (((try simp only [vp_in_iff, Int32.lt_iff_toInt_lt, Int32.le_iff_toInt_le, ← Int32.toInt_inj, Int32.reduceToInt, n_1, n_2, n_8, Int32.toNatClampNeg, Int64.lt_iff_toInt_lt, Int64.le_iff_toInt_le, ← Int64.toInt_inj, Int64.reduceToInt, Int32.toInt_toInt64, lg_cmp_ge, lg_cmp_le, lg_cmp_gt, lg_cmp_lt, lg_cmp_eq, Bool.false_eq_true, Bool.true_eq_false, reduceCtorEq, false_iff, true_iff, iff_true, iff_false, and_true, true_and, and_false, false_and, reduceIte, ite_true, ite_false, eq_self] at *)) <;> omega)), trivial⟩
  · replace h3 := bI_t (b := bx2) (rfl) h3
    have uh3_0 := iff_t cx2_1 h3
    refine wa_iconst (v := 0) (by decide) ?_
    refine wa_goto o_X12_end_20 (by decide) ?_
    refine wa_puti ck_12 fl_12_3 ly_84 (fun s8 hs8 => ?_)
    have Fs8 : Fm [] [0, 2] σ s8 := by rw [hs8]; exact Fm.si (Fm.rf [] [0, 2] σ) rfl
    refine wa_aload_n (i := 0) rfl rfl ?_
    refine wa_aload_n (i := 0) rfl rfl ?_
    refine wa_geti ck_12 fl_12_3 ly_84 ?_
    refine wa_rw (nxe_gi_si hs8) ?_
    refine wa_if_le o_X12_end_38 (by decide) (fun h9 => ?_) (fun h9 => ?_)
    · refine wa_iload_n (i := 1) rfl rfl ?_
      refine wa_puti ck_12 fl_12_485 ly_84 (fun s10 hs10 => ?_)
      have Fs10 : Fm [] [0, 2] σ s10 := by rw [hs10]; exact Fm.si Fs8 rfl
      refine wa_return (st := []) rfl rfl ?_
      exact ⟨Fs10, (by rw [nxe_gi_si hs10]; first | assumption | (((try simp only [vp_in_iff, Int32.lt_iff_toInt_lt, Int32.le_iff_toInt_le, ← Int32.toInt_inj, Int32.reduceToInt, n_1, n_2, n_8, Int32.toNatClampNeg, Int64.lt_iff_toInt_lt, Int64.le_iff_toInt_le, ← Int64.toInt_inj, Int64.reduceToInt, Int32.toInt_toInt64, lg_cmp_ge, lg_cmp_le, lg_cmp_gt, lg_cmp_lt, lg_cmp_eq, Bool.false_eq_true, Bool.true_eq_false, reduceCtorEq, false_iff, true_iff, iff_true, iff_false, and_true, true_and, and_false, false_and, reduceIte, ite_true, ite_false, eq_self] at *)) <;> omega)), trivial⟩
    · refine wa_aload_n (i := 0) rfl rfl ?_
      refine wa_geti ck_12 fl_12_485 ly_84 ?_
      refine wa_rw (nxk_gi_si hs8 (by decide)) ?_
      refine wa_goto o_X12_end_39 (by decide) ?_
      refine wa_puti ck_12 fl_12_485 ly_84 (fun s11 hs11 => ?_)
      have Fs11 : Fm [] [0, 2] σ s11 := by rw [hs11]; exact Fm.si Fs8 rfl
      refine wa_return (st := []) rfl rfl ?_
      exact ⟨Fs11, (by rw [nxe_gi_si hs11]; first | assumption | (((try simp only [vp_in_iff, Int32.lt_iff_toInt_lt, Int32.le_iff_toInt_le, ← Int32.toInt_inj, Int32.reduceToInt, n_1, n_2, n_8, Int32.toNatClampNeg, Int64.lt_iff_toInt_lt, Int64.le_iff_toInt_le, ← Int64.toInt_inj, Int64.reduceToInt, Int32.toInt_toInt64, lg_cmp_ge, lg_cmp_le, lg_cmp_gt, lg_cmp_lt, lg_cmp_eq, Bool.false_eq_true, Bool.true_eq_false, reduceCtorEq, false_iff, true_iff, iff_true, iff_false, and_true, true_and, and_false, false_and, reduceIte, ite_true, ite_false, eq_self] at *)) <;> omega)), trivial⟩
set_option maxHeartbeats 4000000 in
theorem sp_X12_at (G : kG9) {d : Nat} (hd : 0 ≤ d) (σ : St) (a0 : Int32) (a1 : Int32) (p1 : 0 ≤ a0.toInt ∧ a0.toInt < 101) (p2 : 0 ≤ a1.toInt ∧ a1.toInt < 256) : Ct G M_X12_at d [.ref 84, .int a0, .int a1] σ (fun r σ' => ∃ x : Int32, r = some (.int x) ∧ σ = σ' ∧ True) := by
  refine wa_start (by decide) rfl (Nat.le_of_ble_eq_true rfl) (lv := [(0, .ref 84), (1, .int a0), (2, .int a1)]) rfl o_X12_at_0 rfl ?_
  have ua0 := Int32.toInt_lt a0
  have wa0 := Int32.le_toInt a0
  have ua1 := Int32.toInt_lt a1
  have wa1 := Int32.le_toInt a1
  refine wa_aload_n (i := 0) rfl rfl ?_
  refine wa_getr ck_12 fl_12_19 ly_84 rf_84_3 ?_
  refine wa_sipush (v := 256) (by decide) ?_
  refine wa_iload_n (i := 1) rfl rfl ?_
  refine wa_imul ?_
  refine wa_top (fun v1 hv1 => ?_)
  have tv1 := i_mulT hv1
  clear hv1
  refine wa_iload_n (i := 2) rfl rfl ?_
  refine wa_iadd ?_
  refine wa_top (fun v2 hv2 => ?_)
  have tv2 := i_addT hv2
  clear hv2
  refine wa_bald ly_209 (by ((try simp only [vp_in_iff, Int32.lt_iff_toInt_lt, Int32.le_iff_toInt_le, ← Int32.toInt_inj, Int32.reduceToInt, n_1, n_2, n_8, Int32.toNatClampNeg, Int64.lt_iff_toInt_lt, Int64.le_iff_toInt_le, ← Int64.toInt_inj, Int64.reduceToInt, Int32.toInt_toInt64, lg_cmp_ge, lg_cmp_le, lg_cmp_gt, lg_cmp_lt, lg_cmp_eq, Bool.false_eq_true, Bool.true_eq_false, reduceCtorEq, false_iff, true_iff, iff_true, iff_false, and_true, true_and, and_false, false_and, reduceIte, ite_true, ite_false, eq_self] at *)) <;> omega) ?_
  refine wa_sipush (v := 255) (by decide) ?_
  refine wa_iand ?_
  refine wa_top (fun v3 hv3 => ?_)
  have tv3 := i_andT hv3
  clear hv3
  refine wa_ireturn rfl rfl ?_
  exact ⟨_, rfl, rfl, trivial⟩
set_option maxHeartbeats 4000000 in
theorem sp_X12_octet (G : kG9) {d : Nat} (hd : 1 ≤ d) (σ : St) (a0 : Int32) (a1 : Int32) : Ct G M_X12_octet d [.ref 84, .int a0, .int a1] σ (fun r σ' => ∃ x : Int32, r = some (.int x) ∧ Fm [] [0] σ σ' ∧ True) := by
  refine wa_start (by decide) rfl (Nat.le_of_ble_eq_true rfl) (lv := [(0, .ref 84), (1, .int a0), (2, .int a1)]) rfl o_X12_octet_0 rfl ?_
  have ua0 := Int32.toInt_lt a0
  have wa0 := Int32.le_toInt a0
  have ua1 := Int32.toInt_lt a1
  have wa1 := Int32.le_toInt a1
  refine wa_aload_n (i := 0) rfl rfl ?_
  refine wa_iload_n (i := 1) rfl rfl ?_
  refine wa_i2l ?_
  refine wa_lconst (v := 1) (by decide) ?_
  refine wa_ldc2 (v := (100)) (allW_in (kT_13 _ (List.mem_of_getElem? (i := 175) rfl)) rfl) ?_
  refine wa_Si (d9 := d - 1) [.long _, .long _, .long _] [.ref 84] (sp_X12_in G (d := d - 1) (by omega) σ _ _ _) (rfl) rfl rfl (zr (by omega)) mk_X12_in ml_12_504 (Nat.le_of_ble_eq_true rfl) (fun x2 s1 hs1 => ?_)
  obtain ⟨bx2, ex2, zs1, cx2_1, -⟩ := pB hs1
  subst ex2
  subst zs1
  refine wa_if_eq o_X12_octet_29 (by decide) (fun h3 => ?_) (fun h3 => ?_)
  · replace h3 := bI_f (b := bx2) (rfl) h3
    have uh3_0 := iff_f cx2_1 h3
    refine wa_iconst (v := 1) (by decide) ?_
    refine wa_puti ck_12 fl_12_3 ly_84 (fun s4 hs4 => ?_)
    have Fs4 : Fm [] [0] σ s4 := by rw [hs4]; exact Fm.si (Fm.rf [] [0] σ) rfl
    refine wa_aload_n (i := 0) rfl rfl ?_
    refine wa_geti ck_12 fl_12_3 ly_84 ?_
    refine wa_rw (nxe_gi_si hs4) ?_
    refine wa_if_le o_X12_octet_44 (by decide) (fun h5 => ?_) (fun h5 => ?_)
    · refine wa_aload_n (i := 0) rfl rfl ?_
      refine wa_iload_n (i := 1) rfl rfl ?_
      refine wa_iload_n (i := 2) rfl rfl ?_
      refine wa_Vi (d9 := d - 1) [.int _, .int _] [] (sp_X12_at G (d := d - 1) (by omega) s4 _ _ (by ((try simp only [vp_in_iff, Int32.lt_iff_toInt_lt, Int32.le_iff_toInt_le, ← Int32.toInt_inj, Int32.reduceToInt, n_1, n_2, n_8, Int32.toNatClampNeg, Int64.lt_iff_toInt_lt, Int64.le_iff_toInt_le, ← Int64.toInt_inj, Int64.reduceToInt, Int32.toInt_toInt64, lg_cmp_ge, lg_cmp_le, lg_cmp_gt, lg_cmp_lt, lg_cmp_eq, Bool.false_eq_true, Bool.true_eq_false, reduceCtorEq, false_iff, true_iff, iff_true, iff_false, and_true, true_and, and_false, false_and, reduceIte, ite_true, ite_false, eq_self] at *)) <;> omega) (by ((try simp only [vp_in_iff, Int32.lt_iff_toInt_lt, Int32.le_iff_toInt_le, ← Int32.toInt_inj, Int32.reduceToInt, n_1, n_2, n_8, Int32.toNatClampNeg, Int64.lt_iff_toInt_lt, Int64.le_iff_toInt_le, ← Int64.toInt_inj, Int64.reduceToInt, Int32.toInt_toInt64, lg_cmp_ge, lg_cmp_le, lg_cmp_gt, lg_cmp_lt, lg_cmp_eq, Bool.false_eq_true, Bool.true_eq_false, reduceCtorEq, false_iff, true_iff, iff_true, iff_false, and_true, true_and, and_false, false_and, reduceIte, ite_true, ite_false, eq_self] at *)) <;> omega)) (rfl) rfl rfl (zr (by omega)) mk_X12_at ly_84 ml_12_509 (Nat.le_of_ble_eq_true rfl) (fun x7 s6 hs6 => ?_)
      obtain ⟨zs6, -⟩ := pI hs6
      subst zs6
      refine wa_ireturn rfl rfl ?_
      exact ⟨_, rfl, Fs4, trivial⟩
    · refine wa_iconst (v := 0) (by decide) ?_
      refine wa_goto o_X12_octet_50 (by decide) ?_
      refine wa_ireturn rfl rfl ?_
      exact ⟨_, rfl, Fs4, trivial⟩
  · replace h3 := bI_t (b := bx2) (rfl) h3
    have uh3_0 := iff_t cx2_1 h3
    refine wa_iload_n (i := 2) rfl rfl ?_
    refine wa_i2l ?_
    refine wa_lconst (v := 0) (by decide) ?_
    refine wa_ldc2 (v := (255)) (allW_in (kT_12 _ (List.mem_of_getElem? (i := 99) rfl)) rfl) ?_
    refine wa_Si (d9 := d - 1) [.long _, .long _, .long _] [.ref 84] (sp_X12_in G (d := d - 1) (by omega) σ _ _ _) (rfl) rfl rfl (zr (by omega)) mk_X12_in ml_12_504 (Nat.le_of_ble_eq_true rfl) (fun x9 s8 hs8 => ?_)
    obtain ⟨bx9, ex9, zs8, cx9_1, -⟩ := pB hs8
    subst ex9
    subst zs8
    refine wa_if_eq o_X12_octet_29 (by decide) (fun h10 => ?_) (fun h10 => ?_)
    · replace h10 := bI_f (b := bx9) (rfl) h10
      have uh10_0 := iff_f cx9_1 h10
      refine wa_iconst (v := 1) (by decide) ?_
      refine wa_puti ck_12 fl_12_3 ly_84 (fun s11 hs11 => ?_)
      have Fs11 : Fm [] [0] σ s11 := by rw [hs11]; exact Fm.si (Fm.rf [] [0] σ) rfl
      refine wa_aload_n (i := 0) rfl rfl ?_
      refine wa_geti ck_12 fl_12_3 ly_84 ?_
      refine wa_rw (nxe_gi_si hs11) ?_
      refine wa_if_le o_X12_octet_44 (by decide) (fun h12 => ?_) (fun h12 => ?_)
      · refine wa_aload_n (i := 0) rfl rfl ?_
        refine wa_iload_n (i := 1) rfl rfl ?_
        refine wa_iload_n (i := 2) rfl rfl ?_
        refine wa_Vi (d9 := d - 1) [.int _, .int _] [] (sp_X12_at G (d := d - 1) (by omega) s11 _ _ (by ((try simp only [vp_in_iff, Int32.lt_iff_toInt_lt, Int32.le_iff_toInt_le, ← Int32.toInt_inj, Int32.reduceToInt, n_1, n_2, n_8, Int32.toNatClampNeg, Int64.lt_iff_toInt_lt, Int64.le_iff_toInt_le, ← Int64.toInt_inj, Int64.reduceToInt, Int32.toInt_toInt64, lg_cmp_ge, lg_cmp_le, lg_cmp_gt, lg_cmp_lt, lg_cmp_eq, Bool.false_eq_true, Bool.true_eq_false, reduceCtorEq, false_iff, true_iff, iff_true, iff_false, and_true, true_and, and_false, false_and, reduceIte, ite_true, ite_false, eq_self] at *)) <;> omega) (by ((try simp only [vp_in_iff, Int32.lt_iff_toInt_lt, Int32.le_iff_toInt_le, ← Int32.toInt_inj, Int32.reduceToInt, n_1, n_2, n_8, Int32.toNatClampNeg, Int64.lt_iff_toInt_lt, Int64.le_iff_toInt_le, ← Int64.toInt_inj, Int64.reduceToInt, Int32.toInt_toInt64, lg_cmp_ge, lg_cmp_le, lg_cmp_gt, lg_cmp_lt, lg_cmp_eq, Bool.false_eq_true, Bool.true_eq_false, reduceCtorEq, false_iff, true_iff, iff_true, iff_false, and_true, true_and, and_false, false_and, reduceIte, ite_true, ite_false, eq_self] at *)) <;> omega)) (rfl) rfl rfl (zr (by omega)) mk_X12_at ly_84 ml_12_509 (Nat.le_of_ble_eq_true rfl) (fun x14 s13 hs13 => ?_)
        obtain ⟨zs13, -⟩ := pI hs13
        subst zs13
        refine wa_ireturn rfl rfl ?_
        exact ⟨_, rfl, Fs11, trivial⟩
      · refine wa_iconst (v := 0) (by decide) ?_
        refine wa_goto o_X12_octet_50 (by decide) ?_
        refine wa_ireturn rfl rfl ?_
        exact ⟨_, rfl, Fs11, trivial⟩
    · replace h10 := bI_t (b := bx9) (rfl) h10
      have uh10_0 := iff_t cx9_1 h10
      refine wa_iconst (v := 0) (by decide) ?_
      refine wa_goto o_X12_octet_30 (by decide) ?_
      refine wa_puti ck_12 fl_12_3 ly_84 (fun s15 hs15 => ?_)
      have Fs15 : Fm [] [0] σ s15 := by rw [hs15]; exact Fm.si (Fm.rf [] [0] σ) rfl
      refine wa_aload_n (i := 0) rfl rfl ?_
      refine wa_geti ck_12 fl_12_3 ly_84 ?_
      refine wa_rw (nxe_gi_si hs15) ?_
      refine wa_if_le o_X12_octet_44 (by decide) (fun h16 => ?_) (fun h16 => ?_)
      · refine wa_aload_n (i := 0) rfl rfl ?_
        refine wa_iload_n (i := 1) rfl rfl ?_
        refine wa_iload_n (i := 2) rfl rfl ?_
        refine wa_Vi (d9 := d - 1) [.int _, .int _] [] (sp_X12_at G (d := d - 1) (by omega) s15 _ _ (by ((try simp only [vp_in_iff, Int32.lt_iff_toInt_lt, Int32.le_iff_toInt_le, ← Int32.toInt_inj, Int32.reduceToInt, n_1, n_2, n_8, Int32.toNatClampNeg, Int64.lt_iff_toInt_lt, Int64.le_iff_toInt_le, ← Int64.toInt_inj, Int64.reduceToInt, Int32.toInt_toInt64, lg_cmp_ge, lg_cmp_le, lg_cmp_gt, lg_cmp_lt, lg_cmp_eq, Bool.false_eq_true, Bool.true_eq_false, reduceCtorEq, false_iff, true_iff, iff_true, iff_false, and_true, true_and, and_false, false_and, reduceIte, ite_true, ite_false, eq_self] at *)) <;> omega) (by ((try simp only [vp_in_iff, Int32.lt_iff_toInt_lt, Int32.le_iff_toInt_le, ← Int32.toInt_inj, Int32.reduceToInt, n_1, n_2, n_8, Int32.toNatClampNeg, Int64.lt_iff_toInt_lt, Int64.le_iff_toInt_le, ← Int64.toInt_inj, Int64.reduceToInt, Int32.toInt_toInt64, lg_cmp_ge, lg_cmp_le, lg_cmp_gt, lg_cmp_lt, lg_cmp_eq, Bool.false_eq_true, Bool.true_eq_false, reduceCtorEq, false_iff, true_iff, iff_true, iff_false, and_true, true_and, and_false, false_and, reduceIte, ite_true, ite_false, eq_self] at *)) <;> omega)) (rfl) rfl rfl (zr (by omega)) mk_X12_at ly_84 ml_12_509 (Nat.le_of_ble_eq_true rfl) (fun x18 s17 hs17 => ?_)
        obtain ⟨zs17, -⟩ := pI hs17
        subst zs17
        refine wa_ireturn rfl rfl ?_
        exact ⟨_, rfl, Fs15, trivial⟩
      · refine wa_iconst (v := 0) (by decide) ?_
        refine wa_goto o_X12_octet_50 (by decide) ?_
        refine wa_ireturn rfl rfl ?_
        exact ⟨_, rfl, Fs15, trivial⟩
set_option maxHeartbeats 4000000 in
theorem sp_X12_poke (G : kG9) {d : Nat} (hd : 1 ≤ d) (σ : St) (a0 : Int32) (a1 : Int32) (a2 : Int32) : Ct G M_X12_poke d [.ref 84, .int a0, .int a1, .int a2] σ (fun r σ' => ∃ x : Int32, r = some (.int x) ∧ Fm [209] [0] σ σ' ∧ True) := by
  refine wa_start (by decide) rfl (Nat.le_of_ble_eq_true rfl) (lv := [(0, .ref 84), (1, .int a0), (2, .int a1), (3, .int a2)]) rfl o_X12_poke_0 rfl ?_
  have ua0 := Int32.toInt_lt a0
  have wa0 := Int32.le_toInt a0
  have ua1 := Int32.toInt_lt a1
  have wa1 := Int32.le_toInt a1
  have ua2 := Int32.toInt_lt a2
  have wa2 := Int32.le_toInt a2
  refine wa_aload_n (i := 0) rfl rfl ?_
  refine wa_iload_n (i := 1) rfl rfl ?_
  refine wa_i2l ?_
  refine wa_lconst (v := 1) (by decide) ?_
  refine wa_ldc2 (v := (100)) (allW_in (kT_13 _ (List.mem_of_getElem? (i := 175) rfl)) rfl) ?_
  refine wa_Si (d9 := d - 1) [.long _, .long _, .long _] [.ref 84] (sp_X12_in G (d := d - 1) (by omega) σ _ _ _) (rfl) rfl rfl (zr (by omega)) mk_X12_in ml_12_504 (Nat.le_of_ble_eq_true rfl) (fun x2 s1 hs1 => ?_)
  obtain ⟨bx2, ex2, zs1, cx2_1, -⟩ := pB hs1
  subst ex2
  subst zs1
  refine wa_if_eq o_X12_poke_29 (by decide) (fun h3 => ?_) (fun h3 => ?_)
  · replace h3 := bI_f (b := bx2) (rfl) h3
    have uh3_0 := iff_f cx2_1 h3
    refine wa_iconst (v := 1) (by decide) ?_
    refine wa_puti ck_12 fl_12_3 ly_84 (fun s4 hs4 => ?_)
    have Fs4 : Fm [209] [0] σ s4 := by rw [hs4]; exact Fm.si (Fm.rf [209] [0] σ) rfl
    refine wa_aload_n (i := 0) rfl rfl ?_
    refine wa_geti ck_12 fl_12_3 ly_84 ?_
    refine wa_rw (nxe_gi_si hs4) ?_
    refine wa_if_le o_X12_poke_42 (by decide) (fun h5 => ?_) (fun h5 => ?_)
    · refine wa_aload_n (i := 0) rfl rfl ?_
      refine wa_getr ck_12 fl_12_19 ly_84 rf_84_3 ?_
      refine wa_sipush (v := 256) (by decide) ?_
      refine wa_iload_n (i := 1) rfl rfl ?_
      refine wa_imul ?_
      refine wa_top (fun v6 hv6 => ?_)
      have tv6 := i_mulT hv6
      clear hv6
      refine wa_iload_n (i := 2) rfl rfl ?_
      refine wa_iadd ?_
      refine wa_top (fun v7 hv7 => ?_)
      have tv7 := i_addT hv7
      clear hv7
      refine wa_aload_n (i := 0) rfl rfl ?_
      refine wa_getr ck_12 fl_12_19 ly_84 rf_84_3 ?_
      refine wa_sipush (v := 256) (by decide) ?_
      refine wa_iload_n (i := 1) rfl rfl ?_
      refine wa_imul ?_
      refine wa_top (fun v8 hv8 => ?_)
      have tv8 := i_mulT hv8
      clear hv8
      refine wa_iload_n (i := 2) rfl rfl ?_
      refine wa_iadd ?_
      refine wa_top (fun v9 hv9 => ?_)
      have tv9 := i_addT hv9
      clear hv9
      refine wa_bald ly_209 (by ((try simp only [vp_in_iff, Int32.lt_iff_toInt_lt, Int32.le_iff_toInt_le, ← Int32.toInt_inj, Int32.reduceToInt, n_1, n_2, n_8, Int32.toNatClampNeg, Int64.lt_iff_toInt_lt, Int64.le_iff_toInt_le, ← Int64.toInt_inj, Int64.reduceToInt, Int32.toInt_toInt64, lg_cmp_ge, lg_cmp_le, lg_cmp_gt, lg_cmp_lt, lg_cmp_eq, Bool.false_eq_true, Bool.true_eq_false, reduceCtorEq, false_iff, true_iff, iff_true, iff_false, and_true, true_and, and_false, false_and, reduceIte, ite_true, ite_false, eq_self] at *)) <;> omega) ?_
      refine wa_iload_n (i := 3) rfl rfl ?_
      refine wa_ixor ?_
      refine wa_top (fun v10 hv10 => ?_)
      clear hv10
      refine wa_i2b ?_
      refine wa_top (fun v11 hv11 => ?_)
      clear hv11
      refine wa_bast ly_209 (by ((try simp only [vp_in_iff, Int32.lt_iff_toInt_lt, Int32.le_iff_toInt_le, ← Int32.toInt_inj, Int32.reduceToInt, n_1, n_2, n_8, Int32.toNatClampNeg, Int64.lt_iff_toInt_lt, Int64.le_iff_toInt_le, ← Int64.toInt_inj, Int64.reduceToInt, Int32.toInt_toInt64, lg_cmp_ge, lg_cmp_le, lg_cmp_gt, lg_cmp_lt, lg_cmp_eq, Bool.false_eq_true, Bool.true_eq_false, reduceCtorEq, false_iff, true_iff, iff_true, iff_false, and_true, true_and, and_false, false_and, reduceIte, ite_true, ite_false, eq_self] at *)) <;> omega) (fun s12 hs12 => ?_)
      have Fs12 : Fm [209] [0] σ s12 := by rw [hs12]; exact Fm.sy Fs4 rfl
      refine wa_aload_n (i := 0) rfl rfl ?_
      refine wa_iload_n (i := 1) rfl rfl ?_
      refine wa_iload_n (i := 2) rfl rfl ?_
      refine wa_Vi (d9 := d - 1) [.int _, .int _] [] (sp_X12_at G (d := d - 1) (by omega) s12 _ _ (by ((try simp only [vp_in_iff, Int32.lt_iff_toInt_lt, Int32.le_iff_toInt_le, ← Int32.toInt_inj, Int32.reduceToInt, n_1, n_2, n_8, Int32.toNatClampNeg, Int64.lt_iff_toInt_lt, Int64.le_iff_toInt_le, ← Int64.toInt_inj, Int64.reduceToInt, Int32.toInt_toInt64, lg_cmp_ge, lg_cmp_le, lg_cmp_gt, lg_cmp_lt, lg_cmp_eq, Bool.false_eq_true, Bool.true_eq_false, reduceCtorEq, false_iff, true_iff, iff_true, iff_false, and_true, true_and, and_false, false_and, reduceIte, ite_true, ite_false, eq_self] at *)) <;> omega) (by ((try simp only [vp_in_iff, Int32.lt_iff_toInt_lt, Int32.le_iff_toInt_le, ← Int32.toInt_inj, Int32.reduceToInt, n_1, n_2, n_8, Int32.toNatClampNeg, Int64.lt_iff_toInt_lt, Int64.le_iff_toInt_le, ← Int64.toInt_inj, Int64.reduceToInt, Int32.toInt_toInt64, lg_cmp_ge, lg_cmp_le, lg_cmp_gt, lg_cmp_lt, lg_cmp_eq, Bool.false_eq_true, Bool.true_eq_false, reduceCtorEq, false_iff, true_iff, iff_true, iff_false, and_true, true_and, and_false, false_and, reduceIte, ite_true, ite_false, eq_self] at *)) <;> omega)) (rfl) rfl rfl (zr (by omega)) mk_X12_at ly_84 ml_12_509 (Nat.le_of_ble_eq_true rfl) (fun x14 s13 hs13 => ?_)
      obtain ⟨zs13, -⟩ := pI hs13
      subst zs13
      refine wa_ireturn rfl rfl ?_
      exact ⟨_, rfl, Fs12, trivial⟩
    · refine wa_iconst (v := 0) (by decide) ?_
      refine wa_ireturn rfl rfl ?_
      exact ⟨_, rfl, Fs4, trivial⟩
  · replace h3 := bI_t (b := bx2) (rfl) h3
    have uh3_0 := iff_t cx2_1 h3
    refine wa_iload_n (i := 2) rfl rfl ?_
    refine wa_i2l ?_
    refine wa_lconst (v := 0) (by decide) ?_
    refine wa_ldc2 (v := (255)) (allW_in (kT_12 _ (List.mem_of_getElem? (i := 99) rfl)) rfl) ?_
    refine wa_Si (d9 := d - 1) [.long _, .long _, .long _] [.ref 84] (sp_X12_in G (d := d - 1) (by omega) σ _ _ _) (rfl) rfl rfl (zr (by omega)) mk_X12_in ml_12_504 (Nat.le_of_ble_eq_true rfl) (fun x16 s15 hs15 => ?_)
    obtain ⟨bx16, ex16, zs15, cx16_1, -⟩ := pB hs15
    subst ex16
    subst zs15
    refine wa_if_eq o_X12_poke_29 (by decide) (fun h17 => ?_) (fun h17 => ?_)
    · replace h17 := bI_f (b := bx16) (rfl) h17
      have uh17_0 := iff_f cx16_1 h17
      refine wa_iconst (v := 1) (by decide) ?_
      refine wa_puti ck_12 fl_12_3 ly_84 (fun s18 hs18 => ?_)
      have Fs18 : Fm [209] [0] σ s18 := by rw [hs18]; exact Fm.si (Fm.rf [209] [0] σ) rfl
      refine wa_aload_n (i := 0) rfl rfl ?_
      refine wa_geti ck_12 fl_12_3 ly_84 ?_
      refine wa_rw (nxe_gi_si hs18) ?_
      refine wa_if_le o_X12_poke_42 (by decide) (fun h19 => ?_) (fun h19 => ?_)
      · refine wa_aload_n (i := 0) rfl rfl ?_
        refine wa_getr ck_12 fl_12_19 ly_84 rf_84_3 ?_
        refine wa_sipush (v := 256) (by decide) ?_
        refine wa_iload_n (i := 1) rfl rfl ?_
        refine wa_imul ?_
        refine wa_top (fun v20 hv20 => ?_)
        have tv20 := i_mulT hv20
        clear hv20
        refine wa_iload_n (i := 2) rfl rfl ?_
        refine wa_iadd ?_
        refine wa_top (fun v21 hv21 => ?_)
        have tv21 := i_addT hv21
        clear hv21
        refine wa_aload_n (i := 0) rfl rfl ?_
        refine wa_getr ck_12 fl_12_19 ly_84 rf_84_3 ?_
        refine wa_sipush (v := 256) (by decide) ?_
        refine wa_iload_n (i := 1) rfl rfl ?_
        refine wa_imul ?_
        refine wa_top (fun v22 hv22 => ?_)
        have tv22 := i_mulT hv22
        clear hv22
        refine wa_iload_n (i := 2) rfl rfl ?_
        refine wa_iadd ?_
        refine wa_top (fun v23 hv23 => ?_)
        have tv23 := i_addT hv23
        clear hv23
        refine wa_bald ly_209 (by ((try simp only [vp_in_iff, Int32.lt_iff_toInt_lt, Int32.le_iff_toInt_le, ← Int32.toInt_inj, Int32.reduceToInt, n_1, n_2, n_8, Int32.toNatClampNeg, Int64.lt_iff_toInt_lt, Int64.le_iff_toInt_le, ← Int64.toInt_inj, Int64.reduceToInt, Int32.toInt_toInt64, lg_cmp_ge, lg_cmp_le, lg_cmp_gt, lg_cmp_lt, lg_cmp_eq, Bool.false_eq_true, Bool.true_eq_false, reduceCtorEq, false_iff, true_iff, iff_true, iff_false, and_true, true_and, and_false, false_and, reduceIte, ite_true, ite_false, eq_self] at *)) <;> omega) ?_
        refine wa_iload_n (i := 3) rfl rfl ?_
        refine wa_ixor ?_
        refine wa_top (fun v24 hv24 => ?_)
        clear hv24
        refine wa_i2b ?_
        refine wa_top (fun v25 hv25 => ?_)
        clear hv25
        refine wa_bast ly_209 (by ((try simp only [vp_in_iff, Int32.lt_iff_toInt_lt, Int32.le_iff_toInt_le, ← Int32.toInt_inj, Int32.reduceToInt, n_1, n_2, n_8, Int32.toNatClampNeg, Int64.lt_iff_toInt_lt, Int64.le_iff_toInt_le, ← Int64.toInt_inj, Int64.reduceToInt, Int32.toInt_toInt64, lg_cmp_ge, lg_cmp_le, lg_cmp_gt, lg_cmp_lt, lg_cmp_eq, Bool.false_eq_true, Bool.true_eq_false, reduceCtorEq, false_iff, true_iff, iff_true, iff_false, and_true, true_and, and_false, false_and, reduceIte, ite_true, ite_false, eq_self] at *)) <;> omega) (fun s26 hs26 => ?_)
        have Fs26 : Fm [209] [0] σ s26 := by rw [hs26]; exact Fm.sy Fs18 rfl
        refine wa_aload_n (i := 0) rfl rfl ?_
        refine wa_iload_n (i := 1) rfl rfl ?_
        refine wa_iload_n (i := 2) rfl rfl ?_
        refine wa_Vi (d9 := d - 1) [.int _, .int _] [] (sp_X12_at G (d := d - 1) (by omega) s26 _ _ (by ((try simp only [vp_in_iff, Int32.lt_iff_toInt_lt, Int32.le_iff_toInt_le, ← Int32.toInt_inj, Int32.reduceToInt, n_1, n_2, n_8, Int32.toNatClampNeg, Int64.lt_iff_toInt_lt, Int64.le_iff_toInt_le, ← Int64.toInt_inj, Int64.reduceToInt, Int32.toInt_toInt64, lg_cmp_ge, lg_cmp_le, lg_cmp_gt, lg_cmp_lt, lg_cmp_eq, Bool.false_eq_true, Bool.true_eq_false, reduceCtorEq, false_iff, true_iff, iff_true, iff_false, and_true, true_and, and_false, false_and, reduceIte, ite_true, ite_false, eq_self] at *)) <;> omega) (by ((try simp only [vp_in_iff, Int32.lt_iff_toInt_lt, Int32.le_iff_toInt_le, ← Int32.toInt_inj, Int32.reduceToInt, n_1, n_2, n_8, Int32.toNatClampNeg, Int64.lt_iff_toInt_lt, Int64.le_iff_toInt_le, ← Int64.toInt_inj, Int64.reduceToInt, Int32.toInt_toInt64, lg_cmp_ge, lg_cmp_le, lg_cmp_gt, lg_cmp_lt, lg_cmp_eq, Bool.false_eq_true, Bool.true_eq_false, reduceCtorEq, false_iff, true_iff, iff_true, iff_false, and_true, true_and, and_false, false_and, reduceIte, ite_true, ite_false, eq_self] at *)) <;> omega)) (rfl) rfl rfl (zr (by omega)) mk_X12_at ly_84 ml_12_509 (Nat.le_of_ble_eq_true rfl) (fun x28 s27 hs27 => ?_)
        obtain ⟨zs27, -⟩ := pI hs27
        subst zs27
        refine wa_ireturn rfl rfl ?_
        exact ⟨_, rfl, Fs26, trivial⟩
      · refine wa_iconst (v := 0) (by decide) ?_
        refine wa_ireturn rfl rfl ?_
        exact ⟨_, rfl, Fs18, trivial⟩
    · replace h17 := bI_t (b := bx16) (rfl) h17
      have uh17_0 := iff_t cx16_1 h17
      refine wa_iconst (v := 0) (by decide) ?_
      refine wa_goto o_X12_poke_30 (by decide) ?_
      refine wa_puti ck_12 fl_12_3 ly_84 (fun s29 hs29 => ?_)
      have Fs29 : Fm [209] [0] σ s29 := by rw [hs29]; exact Fm.si (Fm.rf [209] [0] σ) rfl
      refine wa_aload_n (i := 0) rfl rfl ?_
      refine wa_geti ck_12 fl_12_3 ly_84 ?_
      refine wa_rw (nxe_gi_si hs29) ?_
      refine wa_if_le o_X12_poke_42 (by decide) (fun h30 => ?_) (fun h30 => ?_)
      · refine wa_aload_n (i := 0) rfl rfl ?_
        refine wa_getr ck_12 fl_12_19 ly_84 rf_84_3 ?_
        refine wa_sipush (v := 256) (by decide) ?_
        refine wa_iload_n (i := 1) rfl rfl ?_
        refine wa_imul ?_
        refine wa_top (fun v31 hv31 => ?_)
        have tv31 := i_mulT hv31
        clear hv31
        refine wa_iload_n (i := 2) rfl rfl ?_
        refine wa_iadd ?_
        refine wa_top (fun v32 hv32 => ?_)
        have tv32 := i_addT hv32
        clear hv32
        refine wa_aload_n (i := 0) rfl rfl ?_
        refine wa_getr ck_12 fl_12_19 ly_84 rf_84_3 ?_
        refine wa_sipush (v := 256) (by decide) ?_
        refine wa_iload_n (i := 1) rfl rfl ?_
        refine wa_imul ?_
        refine wa_top (fun v33 hv33 => ?_)
        have tv33 := i_mulT hv33
        clear hv33
        refine wa_iload_n (i := 2) rfl rfl ?_
        refine wa_iadd ?_
        refine wa_top (fun v34 hv34 => ?_)
        have tv34 := i_addT hv34
        clear hv34
        refine wa_bald ly_209 (by ((try simp only [vp_in_iff, Int32.lt_iff_toInt_lt, Int32.le_iff_toInt_le, ← Int32.toInt_inj, Int32.reduceToInt, n_1, n_2, n_8, Int32.toNatClampNeg, Int64.lt_iff_toInt_lt, Int64.le_iff_toInt_le, ← Int64.toInt_inj, Int64.reduceToInt, Int32.toInt_toInt64, lg_cmp_ge, lg_cmp_le, lg_cmp_gt, lg_cmp_lt, lg_cmp_eq, Bool.false_eq_true, Bool.true_eq_false, reduceCtorEq, false_iff, true_iff, iff_true, iff_false, and_true, true_and, and_false, false_and, reduceIte, ite_true, ite_false, eq_self] at *)) <;> omega) ?_
        refine wa_iload_n (i := 3) rfl rfl ?_
        refine wa_ixor ?_
        refine wa_top (fun v35 hv35 => ?_)
        clear hv35
        refine wa_i2b ?_
        refine wa_top (fun v36 hv36 => ?_)
        clear hv36
        refine wa_bast ly_209 (by ((try simp only [vp_in_iff, Int32.lt_iff_toInt_lt, Int32.le_iff_toInt_le, ← Int32.toInt_inj, Int32.reduceToInt, n_1, n_2, n_8, Int32.toNatClampNeg, Int64.lt_iff_toInt_lt, Int64.le_iff_toInt_le, ← Int64.toInt_inj, Int64.reduceToInt, Int32.toInt_toInt64, lg_cmp_ge, lg_cmp_le, lg_cmp_gt, lg_cmp_lt, lg_cmp_eq, Bool.false_eq_true, Bool.true_eq_false, reduceCtorEq, false_iff, true_iff, iff_true, iff_false, and_true, true_and, and_false, false_and, reduceIte, ite_true, ite_false, eq_self] at *)) <;> omega) (fun s37 hs37 => ?_)
        have Fs37 : Fm [209] [0] σ s37 := by rw [hs37]; exact Fm.sy Fs29 rfl
        refine wa_aload_n (i := 0) rfl rfl ?_
        refine wa_iload_n (i := 1) rfl rfl ?_
        refine wa_iload_n (i := 2) rfl rfl ?_
        refine wa_Vi (d9 := d - 1) [.int _, .int _] [] (sp_X12_at G (d := d - 1) (by omega) s37 _ _ (by ((try simp only [vp_in_iff, Int32.lt_iff_toInt_lt, Int32.le_iff_toInt_le, ← Int32.toInt_inj, Int32.reduceToInt, n_1, n_2, n_8, Int32.toNatClampNeg, Int64.lt_iff_toInt_lt, Int64.le_iff_toInt_le, ← Int64.toInt_inj, Int64.reduceToInt, Int32.toInt_toInt64, lg_cmp_ge, lg_cmp_le, lg_cmp_gt, lg_cmp_lt, lg_cmp_eq, Bool.false_eq_true, Bool.true_eq_false, reduceCtorEq, false_iff, true_iff, iff_true, iff_false, and_true, true_and, and_false, false_and, reduceIte, ite_true, ite_false, eq_self] at *)) <;> omega) (by ((try simp only [vp_in_iff, Int32.lt_iff_toInt_lt, Int32.le_iff_toInt_le, ← Int32.toInt_inj, Int32.reduceToInt, n_1, n_2, n_8, Int32.toNatClampNeg, Int64.lt_iff_toInt_lt, Int64.le_iff_toInt_le, ← Int64.toInt_inj, Int64.reduceToInt, Int32.toInt_toInt64, lg_cmp_ge, lg_cmp_le, lg_cmp_gt, lg_cmp_lt, lg_cmp_eq, Bool.false_eq_true, Bool.true_eq_false, reduceCtorEq, false_iff, true_iff, iff_true, iff_false, and_true, true_and, and_false, false_and, reduceIte, ite_true, ite_false, eq_self] at *)) <;> omega)) (rfl) rfl rfl (zr (by omega)) mk_X12_at ly_84 ml_12_509 (Nat.le_of_ble_eq_true rfl) (fun x39 s38 hs38 => ?_)
        obtain ⟨zs38, -⟩ := pI hs38
        subst zs38
        refine wa_ireturn rfl rfl ?_
        exact ⟨_, rfl, Fs37, trivial⟩
      · refine wa_iconst (v := 0) (by decide) ?_
        refine wa_ireturn rfl rfl ?_
        exact ⟨_, rfl, Fs29, trivial⟩
set_option maxHeartbeats 4000000 in
theorem sp_X12_fault (G : kG9) {d : Nat} (hd : 0 ≤ d) (σ : St) : Ct G M_X12_fault d [.ref 84] σ (fun r σ' => ∃ x : Int32, r = some (.int x) ∧ Fm [] [0] σ σ' ∧ True) := by
  refine wa_start (by decide) rfl (Nat.le_of_ble_eq_true rfl) (lv := [(0, .ref 84)]) rfl o_X12_fault_0 rfl ?_
  refine wa_aload_n (i := 0) rfl rfl ?_
  refine wa_iconst (v := 0) (by decide) ?_
  refine wa_puti ck_12 fl_12_3 ly_84 (fun s1 hs1 => ?_)
  have Fs1 : Fm [] [0] σ s1 := by rw [hs1]; exact Fm.si (Fm.rf [] [0] σ) rfl
  refine wa_aload_n (i := 0) rfl rfl ?_
  refine wa_geti ck_12 fl_12_836 ly_84 ?_
  refine wa_rw (nxk_gi_si hs1 (by decide)) ?_
  refine wa_ireturn rfl rfl ?_
  exact ⟨_, rfl, Fs1, trivial⟩
set_option maxHeartbeats 4000000 in
theorem sp_X12_asks (G : kG9) {d : Nat} (hd : 0 ≤ d) (σ : St) : Ct G M_X12_asks d [.ref 84] σ (fun r σ' => ∃ x : Bool, r = some (.int (bI x)) ∧ Fm [] [0] σ σ' ∧ True) := by
  refine wa_start (by decide) rfl (Nat.le_of_ble_eq_true rfl) (lv := [(0, .ref 84)]) rfl o_X12_asks_0 rfl ?_
  refine wa_aload_n (i := 0) rfl rfl ?_
  refine wa_iconst (v := 0) (by decide) ?_
  refine wa_puti ck_12 fl_12_3 ly_84 (fun s1 hs1 => ?_)
  have Fs1 : Fm [] [0] σ s1 := by rw [hs1]; exact Fm.si (Fm.rf [] [0] σ) rfl
  refine wa_aload_n (i := 0) rfl rfl ?_
  refine wa_getz ck_12 fl_12_488 ly_84 ?_
  refine wa_rw (congrArg bI (nx_gb_si hs1)) ?_
  refine wa_if_ne o_X12_asks_16 (by decide) (fun h2 => ?_) (fun h2 => ?_)
  · replace h2 := bI_t (b := (gb σ 84 5)) (rfl) h2
    refine wa_iconst (v := 0) (by decide) ?_
    refine wa_zreturn false (rfl) rfl rfl ?_
    exact ⟨_, rfl, Fs1, trivial⟩
  · replace h2 := bI_f (b := (gb σ 84 5)) (rfl) h2
    refine wa_iconst (v := 1) (by decide) ?_
    refine wa_goto o_X12_asks_17 (by decide) ?_
    refine wa_zreturn true (rfl) rfl rfl ?_
    exact ⟨_, rfl, Fs1, trivial⟩
set_option maxHeartbeats 4000000 in
theorem sp_X12_isClaim (G : kG9) {d : Nat} (hd : 1 ≤ d) (σ : St) (a0 : Int32) (r1 : 0 ≤ (gi σ 84 33).toInt ∧ (gi σ 84 33).toInt ≤ 24) : Ct G M_X12_isClaim d [.ref 84, .int a0] σ (fun r σ' => ∃ x : Bool, r = some (.int (bI x)) ∧ σ = σ' ∧ (x = true ↔ 0 ≤ a0.toInt ∧ a0.toInt < (gi σ 84 33).toInt) ∧ True) := by
  refine wa_start (by decide) rfl (Nat.le_of_ble_eq_true rfl) (lv := [(0, .ref 84), (1, .int a0)]) rfl o_X12_isClaim_0 rfl ?_
  have ua0 := Int32.toInt_lt a0
  have wa0 := Int32.le_toInt a0
  refine wa_iload_n (i := 1) rfl rfl ?_
  refine wa_i2l ?_
  refine wa_lconst (v := 0) (by decide) ?_
  refine wa_aload_n (i := 0) rfl rfl ?_
  refine wa_geti ck_12 fl_12_818 ly_84 ?_
  refine wa_iconst (v := 1) (by decide) ?_
  refine wa_isub ?_
  refine wa_top (fun v1 hv1 => ?_)
  have tv1 := i_subT hv1
  clear hv1
  refine wa_i2l ?_
  refine wa_Si (d9 := d - 1) [.long _, .long _, .long _] [] (sp_X12_in G (d := d - 1) (by omega) σ _ _ _) (rfl) rfl rfl (zr (by omega)) mk_X12_in ml_12_504 (Nat.le_of_ble_eq_true rfl) (fun x3 s2 hs2 => ?_)
  obtain ⟨bx3, ex3, zs2, cx3_1, -⟩ := pB hs2
  subst ex3
  subst zs2
  refine wa_zreturn bx3 (rfl) rfl rfl ?_
  exact ⟨_, rfl, rfl, (by refine Iff.trans (by assumption) ⟨fun h => ?_, fun h => ?_⟩ <;> ((try simp only [vp_in_iff, Int32.lt_iff_toInt_lt, Int32.le_iff_toInt_le, ← Int32.toInt_inj, Int32.reduceToInt, n_1, n_2, n_8, Int32.toNatClampNeg, Int64.lt_iff_toInt_lt, Int64.le_iff_toInt_le, ← Int64.toInt_inj, Int64.reduceToInt, Int32.toInt_toInt64, lg_cmp_ge, lg_cmp_le, lg_cmp_gt, lg_cmp_lt, lg_cmp_eq, Bool.false_eq_true, Bool.true_eq_false, reduceCtorEq, false_iff, true_iff, iff_true, iff_false, and_true, true_and, and_false, false_and, reduceIte, ite_true, ite_false, eq_self] at *)) <;> omega), trivial⟩
set_option maxHeartbeats 4000000 in
theorem sp_X12_ways (G : kG9) {d : Nat} (hd : 0 ≤ d) (σ : St) (a0 : Int32) (p1 : 0 ≤ a0.toInt ∧ a0.toInt < 6760) : Ct G M_X12_ways d [.ref 84, .int a0] σ (fun r σ' => ∃ x : Int32, r = some (.int x) ∧ σ = σ' ∧ True) := by
  refine wa_start (by decide) rfl (Nat.le_of_ble_eq_true rfl) (lv := [(0, .ref 84), (1, .int a0)]) rfl o_X12_ways_0 rfl ?_
  have ua0 := Int32.toInt_lt a0
  have wa0 := Int32.le_toInt a0
  refine wa_aload_n (i := 0) rfl rfl ?_
  refine wa_getr ck_12 fl_12_156 ly_84 rf_84_57 ?_
  refine wa_iload_n (i := 1) rfl rfl ?_
  refine wa_iald ly_182 (by ((try simp only [vp_in_iff, Int32.lt_iff_toInt_lt, Int32.le_iff_toInt_le, ← Int32.toInt_inj, Int32.reduceToInt, n_1, n_2, n_8, Int32.toNatClampNeg, Int64.lt_iff_toInt_lt, Int64.le_iff_toInt_le, ← Int64.toInt_inj, Int64.reduceToInt, Int32.toInt_toInt64, lg_cmp_ge, lg_cmp_le, lg_cmp_gt, lg_cmp_lt, lg_cmp_eq, Bool.false_eq_true, Bool.true_eq_false, reduceCtorEq, false_iff, true_iff, iff_true, iff_false, and_true, true_and, and_false, false_and, reduceIte, ite_true, ite_false, eq_self] at *)) <;> omega) ?_
  refine wa_istore_nD (lv' := [(2, .int (gi σ 182 (a0).toNatClampNeg)), (0, .ref 84), (1, .int a0)]) (i := 2) rfl (by decide) rfl ?_
  refine wa_iload_n (i := 2) rfl rfl ?_
  refine wa_bipush (v := 8) (by decide) ?_
  refine wa_icmp_eq o_X12_ways_25 (by decide) (fun h1 => ?_) (fun h1 => ?_)
  · refine wa_iconst (v := 2) (by decide) ?_
    refine wa_goto o_X12_ways_51 (by decide) ?_
    refine wa_ireturn rfl rfl ?_
    exact ⟨_, rfl, rfl, trivial⟩
  · refine wa_iload_n (i := 2) rfl rfl ?_
    refine wa_bipush (v := 9) (by decide) ?_
    refine wa_icmp_eq o_X12_ways_25 (by decide) (fun h2 => ?_) (fun h2 => ?_)
    · refine wa_iconst (v := 2) (by decide) ?_
      refine wa_goto o_X12_ways_51 (by decide) ?_
      refine wa_ireturn rfl rfl ?_
      exact ⟨_, rfl, rfl, trivial⟩
    · refine wa_iload_n (i := 2) rfl rfl ?_
      refine wa_bipush (v := 10) (by decide) ?_
      refine wa_icmp_ne o_X12_ways_29 (by decide) (fun h3 => ?_) (fun h3 => ?_)
      · refine wa_iload_n (i := 2) rfl rfl ?_
        refine wa_bipush (v := 11) (by decide) ?_
        refine wa_icmp_eq o_X12_ways_41 (by decide) (fun h4 => ?_) (fun h4 => ?_)
        · refine wa_aload_n (i := 0) rfl rfl ?_
          refine wa_getr ck_12 fl_12_162 ly_84 rf_84_59 ?_
          refine wa_iload_n (i := 1) rfl rfl ?_
          refine wa_iald ly_180 (by ((try simp only [vp_in_iff, Int32.lt_iff_toInt_lt, Int32.le_iff_toInt_le, ← Int32.toInt_inj, Int32.reduceToInt, n_1, n_2, n_8, Int32.toNatClampNeg, Int64.lt_iff_toInt_lt, Int64.le_iff_toInt_le, ← Int64.toInt_inj, Int64.reduceToInt, Int32.toInt_toInt64, lg_cmp_ge, lg_cmp_le, lg_cmp_gt, lg_cmp_lt, lg_cmp_eq, Bool.false_eq_true, Bool.true_eq_false, reduceCtorEq, false_iff, true_iff, iff_true, iff_false, and_true, true_and, and_false, false_and, reduceIte, ite_true, ite_false, eq_self] at *)) <;> omega) ?_
          refine wa_goto o_X12_ways_51 (by decide) ?_
          refine wa_ireturn rfl rfl ?_
          exact ⟨_, rfl, rfl, trivial⟩
        · refine wa_iload_n (i := 2) rfl rfl ?_
          refine wa_bipush (v := 12) (by decide) ?_
          refine wa_icmp_ne o_X12_ways_50 (by decide) (fun h5 => ?_) (fun h5 => ?_)
          · refine wa_iconst (v := 1) (by decide) ?_
            refine wa_ireturn rfl rfl ?_
            exact ⟨_, rfl, rfl, trivial⟩
          · refine wa_aload_n (i := 0) rfl rfl ?_
            refine wa_getr ck_12 fl_12_162 ly_84 rf_84_59 ?_
            refine wa_iload_n (i := 1) rfl rfl ?_
            refine wa_iald ly_180 (by ((try simp only [vp_in_iff, Int32.lt_iff_toInt_lt, Int32.le_iff_toInt_le, ← Int32.toInt_inj, Int32.reduceToInt, n_1, n_2, n_8, Int32.toNatClampNeg, Int64.lt_iff_toInt_lt, Int64.le_iff_toInt_le, ← Int64.toInt_inj, Int64.reduceToInt, Int32.toInt_toInt64, lg_cmp_ge, lg_cmp_le, lg_cmp_gt, lg_cmp_lt, lg_cmp_eq, Bool.false_eq_true, Bool.true_eq_false, reduceCtorEq, false_iff, true_iff, iff_true, iff_false, and_true, true_and, and_false, false_and, reduceIte, ite_true, ite_false, eq_self] at *)) <;> omega) ?_
            refine wa_goto o_X12_ways_51 (by decide) ?_
            refine wa_ireturn rfl rfl ?_
            exact ⟨_, rfl, rfl, trivial⟩
      · refine wa_iconst (v := 2) (by decide) ?_
        refine wa_goto o_X12_ways_51 (by decide) ?_
        refine wa_ireturn rfl rfl ?_
        exact ⟨_, rfl, rfl, trivial⟩
set_option maxHeartbeats 4000000 in
theorem sp_X12_casesOf (G : kG9) {d : Nat} (hd : 1 ≤ d) (σ : St) (a0 : Int32) (p1 : 0 ≤ a0.toInt ∧ a0.toInt < 26) (A_183 : AR ap_183 σ 183) (A_186 : AR ap_186 σ 186) (A_187 : AR ap_187 σ 187) : Ct G M_X12_casesOf d [.ref 84, .int a0] σ (fun r σ' => ∃ x : Int64, r = some (.long x) ∧ σ = σ' ∧ True) := by
  refine wa_start (by decide) rfl (Nat.le_of_ble_eq_true rfl) (lv := [(0, .ref 84), (1, .int a0)]) rfl o_X12_casesOf_0 rfl ?_
  have ua0 := Int32.toInt_lt a0
  have wa0 := Int32.le_toInt a0
  refine wa_lconst (v := 0) (by decide) ?_
  refine wa_lstore_nD (lv' := [(2, .long 0), (0, .ref 84), (1, .int a0)]) (i := 2) rfl (by decide) rfl ?_
  refine wa_bipush (v := 61) (by decide) ?_
  refine wa_iload_n (i := 1) rfl rfl ?_
  refine wa_imul ?_
  refine wa_top (fun v1 hv1 => ?_)
  have tv1 := i_mulT hv1
  clear hv1
  refine wa_istoreD (lv' := [(4, .int v1), (2, .long 0), (0, .ref 84), (1, .int a0)]) (by decide) rfl ?_
  refine wa_pick [2, 3, 1, 0] rfl ?_
  have hi3 : ∀ (n9_8 : Nat) (l2 : Int64) (l4 : Int32), ((61 * a0.toInt ≤ l4.toInt) ∧ (True)) → (2147483647 - l4.toInt).toNat = n9_8 → WA G M_X12_casesOf (ZM G M_X12_casesOf d (fun r σ' => ∃ x : Int64, r = some (.long x) ∧ σ = σ' ∧ True)) B_X12_casesOf_8 [(0, .ref 84), (1, .int a0), (2, .long l2), (4, .int l4)] [] σ := by
    intro n9_8
    induction n9_8 using Nat.strongRecOn with
    | _ n9_8 ih2 =>
      intro l2 l4  i9 m9_8
      obtain ⟨jhi3_0, -⟩ := i9
      have ul4 := Int32.toInt_lt l4
      have wl4 := Int32.le_toInt l4
      refine wa_iload rfl ?_
      refine wa_bipush (v := 61) (by decide) ?_
      refine wa_iload_n (i := 1) rfl rfl ?_
      refine wa_imul ?_
      refine wa_top (fun v4 hv4 => ?_)
      have tv4 := i_mulT hv4
      clear hv4
      refine wa_aload_n (i := 0) rfl rfl ?_
      refine wa_getr ck_12 fl_12_153 ly_84 rf_84_56 ?_
      refine wa_iload_n (i := 1) rfl rfl ?_
      refine wa_iald ly_183 (by ((try simp only [vp_in_iff, Int32.lt_iff_toInt_lt, Int32.le_iff_toInt_le, ← Int32.toInt_inj, Int32.reduceToInt, n_1, n_2, n_8, Int32.toNatClampNeg, Int64.lt_iff_toInt_lt, Int64.le_iff_toInt_le, ← Int64.toInt_inj, Int64.reduceToInt, Int32.toInt_toInt64, lg_cmp_ge, lg_cmp_le, lg_cmp_gt, lg_cmp_lt, lg_cmp_eq, Bool.false_eq_true, Bool.true_eq_false, reduceCtorEq, false_iff, true_iff, iff_true, iff_false, and_true, true_and, and_false, false_and, reduceIte, ite_true, ite_false, eq_self] at *)) <;> omega) ?_
      refine wa_top (fun v5 hv5 => ?_)
      have rv5 : 0 ≤ v5.toInt ∧ v5.toInt ≤ 61 := by rw [← hv5]; exact ar_at A_183 _
      clear hv5
      refine wa_iadd ?_
      refine wa_top (fun v6 hv6 => ?_)
      have tv6 := i_addT hv6
      clear hv6
      refine wa_icmp_ge o_X12_casesOf_97 (by decide) (fun h7 => ?_) (fun h7 => ?_)
      · refine wa_lload_n (i := 2) rfl rfl ?_
        refine wa_lreturn rfl rfl ?_
        exact ⟨_, rfl, rfl, trivial⟩
      · have mh7 := nle_mx h7
        refine wa_lconst (v := 1) (by decide) ?_
        refine wa_lstoreD (lv' := [(5, .long 1), (0, .ref 84), (1, .int a0), (2, .long l2), (4, .int l4)]) (by decide) rfl ?_
        refine wa_aload_n (i := 0) rfl rfl ?_
        refine wa_getr ck_12 fl_12_141 ly_84 rf_84_52 ?_
        refine wa_iload rfl ?_
        refine wa_iald ly_187 (by ((try simp only [vp_in_iff, Int32.lt_iff_toInt_lt, Int32.le_iff_toInt_le, ← Int32.toInt_inj, Int32.reduceToInt, n_1, n_2, n_8, Int32.toNatClampNeg, Int64.lt_iff_toInt_lt, Int64.le_iff_toInt_le, ← Int64.toInt_inj, Int64.reduceToInt, Int32.toInt_toInt64, lg_cmp_ge, lg_cmp_le, lg_cmp_gt, lg_cmp_lt, lg_cmp_eq, Bool.false_eq_true, Bool.true_eq_false, reduceCtorEq, false_iff, true_iff, iff_true, iff_false, and_true, true_and, and_false, false_and, reduceIte, ite_true, ite_false, eq_self] at *)) <;> omega) ?_
        refine wa_top (fun v8 hv8 => ?_)
        have rv8 : 0 ≤ v8.toInt ∧ v8.toInt ≤ 260 := by rw [← hv8]; exact ar_at A_187 _
        clear hv8
        refine wa_istoreD (lv' := [(7, .int v8), (5, .long 1), (0, .ref 84), (1, .int a0), (2, .long l2), (4, .int l4)]) (by decide) rfl ?_
        refine wa_pick [2, 3, 4, 5, 1, 0] rfl ?_
        have hi10 : ∀ (n9_36 : Nat) (l5 : Int64) (l7 : Int32), ((0 ≤ l7.toInt) ∧ (True)) → (2147483647 - l7.toInt).toNat = n9_36 → WA G M_X12_casesOf (ZM G M_X12_casesOf d (fun r σ' => ∃ x : Int64, r = some (.long x) ∧ σ = σ' ∧ True)) B_X12_casesOf_36 [(0, .ref 84), (1, .int a0), (2, .long l2), (4, .int l4), (5, .long l5), (7, .int l7)] [] σ := by
          intro n9_36
          induction n9_36 using Nat.strongRecOn with
          | _ n9_36 ih9 =>
            intro l5 l7  i9 m9_36
            obtain ⟨jhi10_0, -⟩ := i9
            have ul7 := Int32.toInt_lt l7
            have wl7 := Int32.le_toInt l7
            refine wa_iload rfl ?_
            refine wa_aload_n (i := 0) rfl rfl ?_
            refine wa_getr ck_12 fl_12_144 ly_84 rf_84_53 ?_
            refine wa_iload rfl ?_
            refine wa_iald ly_186 (by ((try simp only [vp_in_iff, Int32.lt_iff_toInt_lt, Int32.le_iff_toInt_le, ← Int32.toInt_inj, Int32.reduceToInt, n_1, n_2, n_8, Int32.toNatClampNeg, Int64.lt_iff_toInt_lt, Int64.le_iff_toInt_le, ← Int64.toInt_inj, Int64.reduceToInt, Int32.toInt_toInt64, lg_cmp_ge, lg_cmp_le, lg_cmp_gt, lg_cmp_lt, lg_cmp_eq, Bool.false_eq_true, Bool.true_eq_false, reduceCtorEq, false_iff, true_iff, iff_true, iff_false, and_true, true_and, and_false, false_and, reduceIte, ite_true, ite_false, eq_self] at *)) <;> omega) ?_
            refine wa_top (fun v11 hv11 => ?_)
            have rv11 : 0 ≤ v11.toInt ∧ v11.toInt ≤ 260 := by rw [← hv11]; exact ar_at A_186 _
            clear hv11
            refine wa_icmp_ge o_X12_casesOf_86 (by decide) (fun h12 => ?_) (fun h12 => ?_)
            · refine wa_lload_n (i := 2) rfl rfl ?_
              refine wa_lload rfl ?_
              refine wa_ladd ?_
              refine wa_topl (fun v13 hv13 => ?_)
              clear hv13
              refine wa_lstore_nD (lv' := [(2, .long v13), (0, .ref 84), (1, .int a0), (4, .int l4), (5, .long l5), (7, .int l7)]) (i := 2) rfl (by decide) rfl ?_
              refine wa_iinc (v := (1)) (lv' := fun y14 => [(4, .int y14), (2, .long v13), (0, .ref 84), (1, .int a0), (5, .long l5), (7, .int l7)]) (by decide) rfl (by decide) (fun _ => rfl) (fun y14 hy14 => ?_)
              have ty14 := i_addT hy14.symm
              clear hy14
              refine wa_goto o_X12_casesOf_8 (by decide) ?_
              refine wa_pick [2, 3, 1, 0] rfl ?_
              exact ih2 _ (by ((try simp only [vp_in_iff, Int32.lt_iff_toInt_lt, Int32.le_iff_toInt_le, ← Int32.toInt_inj, Int32.reduceToInt, n_1, n_2, n_8, Int32.toNatClampNeg, Int64.lt_iff_toInt_lt, Int64.le_iff_toInt_le, ← Int64.toInt_inj, Int64.reduceToInt, Int32.toInt_toInt64, lg_cmp_ge, lg_cmp_le, lg_cmp_gt, lg_cmp_lt, lg_cmp_eq, Bool.false_eq_true, Bool.true_eq_false, reduceCtorEq, false_iff, true_iff, iff_true, iff_false, and_true, true_and, and_false, false_and, reduceIte, ite_true, ite_false, eq_self] at *)) <;> omega) _ _ ⟨(by ((try simp only [vp_in_iff, Int32.lt_iff_toInt_lt, Int32.le_iff_toInt_le, ← Int32.toInt_inj, Int32.reduceToInt, n_1, n_2, n_8, Int32.toNatClampNeg, Int64.lt_iff_toInt_lt, Int64.le_iff_toInt_le, ← Int64.toInt_inj, Int64.reduceToInt, Int32.toInt_toInt64, lg_cmp_ge, lg_cmp_le, lg_cmp_gt, lg_cmp_lt, lg_cmp_eq, Bool.false_eq_true, Bool.true_eq_false, reduceCtorEq, false_iff, true_iff, iff_true, iff_false, and_true, true_and, and_false, false_and, reduceIte, ite_true, ite_false, eq_self] at *)) <;> omega), trivial⟩ rfl
            · have mh12 := nle_mx h12
              refine wa_lload rfl ?_
              refine wa_ldc2 (v := (64)) (allW_in (kT_13 _ (List.mem_of_getElem? (i := 63) rfl)) rfl) ?_
              refine wa_lcmp ?_
              refine wa_top (fun v15 hv15 => ?_)
              have tv15 := i_cmpT hv15
              clear hv15
              refine wa_if_le o_X12_casesOf_62 (by decide) (fun h16 => ?_) (fun h16 => ?_)
              · refine wa_lload rfl ?_
                refine wa_aload_n (i := 0) rfl rfl ?_
                refine wa_sipush (v := 260) (by decide) ?_
                refine wa_iload_n (i := 1) rfl rfl ?_
                refine wa_imul ?_
                refine wa_top (fun v17 hv17 => ?_)
                have tv17 := i_mulT hv17
                clear hv17
                refine wa_iload rfl ?_
                refine wa_iadd ?_
                refine wa_top (fun v18 hv18 => ?_)
                have tv18 := i_addT hv18
                clear hv18
                refine wa_Vi (d9 := d - 1) [.int _] [.long l5] (sp_X12_ways G (d := d - 1) (by omega) σ _ (by ((try simp only [vp_in_iff, Int32.lt_iff_toInt_lt, Int32.le_iff_toInt_le, ← Int32.toInt_inj, Int32.reduceToInt, n_1, n_2, n_8, Int32.toNatClampNeg, Int64.lt_iff_toInt_lt, Int64.le_iff_toInt_le, ← Int64.toInt_inj, Int64.reduceToInt, Int32.toInt_toInt64, lg_cmp_ge, lg_cmp_le, lg_cmp_gt, lg_cmp_lt, lg_cmp_eq, Bool.false_eq_true, Bool.true_eq_false, reduceCtorEq, false_iff, true_iff, iff_true, iff_false, and_true, true_and, and_false, false_and, reduceIte, ite_true, ite_false, eq_self] at *)) <;> omega)) (rfl) rfl rfl (zr (by omega)) mk_X12_ways ly_84 ml_12_800 (Nat.le_of_ble_eq_true rfl) (fun x20 s19 hs19 => ?_)
                obtain ⟨zs19, -⟩ := pI hs19
                subst zs19
                refine wa_i2l ?_
                refine wa_lmul ?_
                refine wa_topl (fun v21 hv21 => ?_)
                clear hv21
                refine wa_lstoreD (lv' := [(5, .long v21), (0, .ref 84), (1, .int a0), (2, .long l2), (4, .int l4), (7, .int l7)]) (by decide) rfl ?_
                refine wa_iinc (v := (1)) (lv' := fun y22 => [(7, .int y22), (5, .long v21), (0, .ref 84), (1, .int a0), (2, .long l2), (4, .int l4)]) (by decide) rfl (by decide) (fun _ => rfl) (fun y22 hy22 => ?_)
                have ty22 := i_addT hy22.symm
                clear hy22
                refine wa_goto o_X12_casesOf_36 (by decide) ?_
                refine wa_pick [2, 3, 4, 5, 1, 0] rfl ?_
                exact ih9 _ (by ((try simp only [vp_in_iff, Int32.lt_iff_toInt_lt, Int32.le_iff_toInt_le, ← Int32.toInt_inj, Int32.reduceToInt, n_1, n_2, n_8, Int32.toNatClampNeg, Int64.lt_iff_toInt_lt, Int64.le_iff_toInt_le, ← Int64.toInt_inj, Int64.reduceToInt, Int32.toInt_toInt64, lg_cmp_ge, lg_cmp_le, lg_cmp_gt, lg_cmp_lt, lg_cmp_eq, Bool.false_eq_true, Bool.true_eq_false, reduceCtorEq, false_iff, true_iff, iff_true, iff_false, and_true, true_and, and_false, false_and, reduceIte, ite_true, ite_false, eq_self] at *)) <;> omega) _ _ ⟨(by ((try simp only [vp_in_iff, Int32.lt_iff_toInt_lt, Int32.le_iff_toInt_le, ← Int32.toInt_inj, Int32.reduceToInt, n_1, n_2, n_8, Int32.toNatClampNeg, Int64.lt_iff_toInt_lt, Int64.le_iff_toInt_le, ← Int64.toInt_inj, Int64.reduceToInt, Int32.toInt_toInt64, lg_cmp_ge, lg_cmp_le, lg_cmp_gt, lg_cmp_lt, lg_cmp_eq, Bool.false_eq_true, Bool.true_eq_false, reduceCtorEq, false_iff, true_iff, iff_true, iff_false, and_true, true_and, and_false, false_and, reduceIte, ite_true, ite_false, eq_self] at *)) <;> omega), trivial⟩ rfl
              · refine wa_lload rfl ?_
                refine wa_goto o_X12_casesOf_78 (by decide) ?_
                refine wa_lstoreD (lv' := [(5, .long l5), (0, .ref 84), (1, .int a0), (2, .long l2), (4, .int l4), (7, .int l7)]) (by decide) rfl ?_
                refine wa_iinc (v := (1)) (lv' := fun y23 => [(7, .int y23), (5, .long l5), (0, .ref 84), (1, .int a0), (2, .long l2), (4, .int l4)]) (by decide) rfl (by decide) (fun _ => rfl) (fun y23 hy23 => ?_)
                have ty23 := i_addT hy23.symm
                clear hy23
                refine wa_goto o_X12_casesOf_36 (by decide) ?_
                refine wa_pick [2, 3, 4, 5, 1, 0] rfl ?_
                exact ih9 _ (by ((try simp only [vp_in_iff, Int32.lt_iff_toInt_lt, Int32.le_iff_toInt_le, ← Int32.toInt_inj, Int32.reduceToInt, n_1, n_2, n_8, Int32.toNatClampNeg, Int64.lt_iff_toInt_lt, Int64.le_iff_toInt_le, ← Int64.toInt_inj, Int64.reduceToInt, Int32.toInt_toInt64, lg_cmp_ge, lg_cmp_le, lg_cmp_gt, lg_cmp_lt, lg_cmp_eq, Bool.false_eq_true, Bool.true_eq_false, reduceCtorEq, false_iff, true_iff, iff_true, iff_false, and_true, true_and, and_false, false_and, reduceIte, ite_true, ite_false, eq_self] at *)) <;> omega) _ _ ⟨(by ((try simp only [vp_in_iff, Int32.lt_iff_toInt_lt, Int32.le_iff_toInt_le, ← Int32.toInt_inj, Int32.reduceToInt, n_1, n_2, n_8, Int32.toNatClampNeg, Int64.lt_iff_toInt_lt, Int64.le_iff_toInt_le, ← Int64.toInt_inj, Int64.reduceToInt, Int32.toInt_toInt64, lg_cmp_ge, lg_cmp_le, lg_cmp_gt, lg_cmp_lt, lg_cmp_eq, Bool.false_eq_true, Bool.true_eq_false, reduceCtorEq, false_iff, true_iff, iff_true, iff_false, and_true, true_and, and_false, false_and, reduceIte, ite_true, ite_false, eq_self] at *)) <;> omega), trivial⟩ rfl
        exact hi10 _ _ _ ⟨(by ((try simp only [vp_in_iff, Int32.lt_iff_toInt_lt, Int32.le_iff_toInt_le, ← Int32.toInt_inj, Int32.reduceToInt, n_1, n_2, n_8, Int32.toNatClampNeg, Int64.lt_iff_toInt_lt, Int64.le_iff_toInt_le, ← Int64.toInt_inj, Int64.reduceToInt, Int32.toInt_toInt64, lg_cmp_ge, lg_cmp_le, lg_cmp_gt, lg_cmp_lt, lg_cmp_eq, Bool.false_eq_true, Bool.true_eq_false, reduceCtorEq, false_iff, true_iff, iff_true, iff_false, and_true, true_and, and_false, false_and, reduceIte, ite_true, ite_false, eq_self] at *)) <;> omega), trivial⟩ rfl
  exact hi3 _ _ _ ⟨(by ((try simp only [vp_in_iff, Int32.lt_iff_toInt_lt, Int32.le_iff_toInt_le, ← Int32.toInt_inj, Int32.reduceToInt, n_1, n_2, n_8, Int32.toNatClampNeg, Int64.lt_iff_toInt_lt, Int64.le_iff_toInt_le, ← Int64.toInt_inj, Int64.reduceToInt, Int32.toInt_toInt64, lg_cmp_ge, lg_cmp_le, lg_cmp_gt, lg_cmp_lt, lg_cmp_eq, Bool.false_eq_true, Bool.true_eq_false, reduceCtorEq, false_iff, true_iff, iff_true, iff_false, and_true, true_and, and_false, false_and, reduceIte, ite_true, ite_false, eq_self] at *)) <;> omega), trivial⟩ rfl
set_option maxHeartbeats 4000000 in
theorem sp_X12_about (G : kG9) {d : Nat} (hd : 2 ≤ d) (σ : St) (a0 : Int32) (a1 : Int32) (r1 : 0 ≤ (gi σ 84 33).toInt ∧ (gi σ 84 33).toInt ≤ 24) (A_156 : AR ap_156 σ 156) (A_183 : AR ap_183 σ 183) (A_186 : AR ap_186 σ 186) (A_187 : AR ap_187 σ 187) (A_199 : AR ap_199 σ 199) : Ct G M_X12_about d [.ref 84, .int a0, .int a1] σ (fun r σ' => ∃ x : Int32, r = some (.int x) ∧ Fm [] [0] σ σ' ∧ True) := by
  refine wa_start (by decide) rfl (Nat.le_of_ble_eq_true rfl) (lv := [(0, .ref 84), (1, .int a0), (2, .int a1)]) rfl o_X12_about_0 rfl ?_
  have ua0 := Int32.toInt_lt a0
  have wa0 := Int32.le_toInt a0
  have ua1 := Int32.toInt_lt a1
  have wa1 := Int32.le_toInt a1
  refine wa_aload_n (i := 0) rfl rfl ?_
  refine wa_Vi (d9 := d - 1) [] [] (sp_X12_asks G (d := d - 1) (by omega) σ ) (rfl) rfl rfl (zr (by omega)) mk_X12_asks ly_84 ml_12_871 (Nat.le_of_ble_eq_true rfl) (fun x2 s1 hs1 => ?_)
  obtain ⟨bx2, ex2, fs1, -⟩ := pB hs1
  subst ex2
  have Fs1 : Fm [] [0] σ s1 := Fm.tr (Fm.rf [] [0] σ) (Fm.wd fs1 rfl rfl)
  refine wa_if_ne o_X12_about_10 (by decide) (fun h3 => ?_) (fun h3 => ?_)
  · replace h3 := bI_t (b := bx2) (rfl) h3
    refine wa_aload_n (i := 0) rfl rfl ?_
    refine wa_iload_n (i := 1) rfl rfl ?_
    refine wa_Vi (d9 := d - 1) [.int _] [] (sp_X12_isClaim G (d := d - 1) (by omega) s1 _ (by rw [Fm.gi fs1 (q := 84) (k := 33) rfl rfl]; first | assumption | exact Or.inl rfl | exact Or.inr rfl | (((try simp only [vp_in_iff, Int32.lt_iff_toInt_lt, Int32.le_iff_toInt_le, ← Int32.toInt_inj, Int32.reduceToInt, n_1, n_2, n_8, Int32.toNatClampNeg, Int64.lt_iff_toInt_lt, Int64.le_iff_toInt_le, ← Int64.toInt_inj, Int64.reduceToInt, Int32.toInt_toInt64, lg_cmp_ge, lg_cmp_le, lg_cmp_gt, lg_cmp_lt, lg_cmp_eq, Bool.false_eq_true, Bool.true_eq_false, reduceCtorEq, false_iff, true_iff, iff_true, iff_false, and_true, true_and, and_false, false_and, reduceIte, ite_true, ite_false, eq_self] at *)) <;> omega))) (rfl) rfl rfl (zr (by omega)) mk_X12_isClaim ly_84 ml_12_877 (Nat.le_of_ble_eq_true rfl) (fun x5 s4 hs4 => ?_)
    obtain ⟨bx5, ex5, zs4, cx5_1, -⟩ := pB hs4
    subst ex5
    rw [Fm.gi fs1 (q := 84) (k := 33) rfl rfl] at cx5_1
    subst zs4
    refine wa_if_ne o_X12_about_21 (by decide) (fun h6 => ?_) (fun h6 => ?_)
    · replace h6 := bI_t (b := bx5) (rfl) h6
      have uh6_0 := iff_t cx5_1 h6
      refine wa_iload_n (i := 2) rfl rfl ?_
      refine wa_top (fun q7 hq7 => ?_)
      by_cases h8 : q7 = 0
      · refine wa_tIn (by rw [h8]; decide) (by rw [h8]; decide) (by rw [h8] <;> rfl) o_X12_about_60 (by decide) ?_
        refine wa_aload_n (i := 0) rfl rfl ?_
        refine wa_getr ck_12 fl_12_265 ly_84 rf_84_103 ?_
        refine wa_iload_n (i := 1) rfl rfl ?_
        refine wa_zald ly_146 (by ((try simp only [vp_in_iff, Int32.lt_iff_toInt_lt, Int32.le_iff_toInt_le, ← Int32.toInt_inj, Int32.reduceToInt, n_1, n_2, n_8, Int32.toNatClampNeg, Int64.lt_iff_toInt_lt, Int64.le_iff_toInt_le, ← Int64.toInt_inj, Int64.reduceToInt, Int32.toInt_toInt64, lg_cmp_ge, lg_cmp_le, lg_cmp_gt, lg_cmp_lt, lg_cmp_eq, Bool.false_eq_true, Bool.true_eq_false, reduceCtorEq, false_iff, true_iff, iff_true, iff_false, and_true, true_and, and_false, false_and, reduceIte, ite_true, ite_false, eq_self] at *)) <;> omega) ?_
        refine wa_if_eq o_X12_about_73 (by decide) (fun h9 => ?_) (fun h9 => ?_)
        · replace h9 := bI_f (b := (gb s1 146 (a0).toNatClampNeg)) (rfl) h9
          refine wa_iconst (v := 0) (by decide) ?_
          refine wa_ireturn rfl rfl ?_
          exact ⟨_, rfl, Fs1, trivial⟩
        · replace h9 := bI_t (b := (gb s1 146 (a0).toNatClampNeg)) (rfl) h9
          refine wa_iconst (v := 1) (by decide) ?_
          refine wa_goto o_X12_about_74 (by decide) ?_
          refine wa_ireturn rfl rfl ?_
          exact ⟨_, rfl, Fs1, trivial⟩
      ·
        by_cases h10 : q7 = 1
        · refine wa_tIn (by rw [h10]; decide) (by rw [h10]; decide) (by rw [h10] <;> rfl) o_X12_about_75 (by decide) ?_
          refine wa_aload_n (i := 0) rfl rfl ?_
          refine wa_getr ck_12 fl_12_235 ly_84 rf_84_89 ?_
          refine wa_iload_n (i := 1) rfl rfl ?_
          refine wa_iald ly_156 (by ((try simp only [vp_in_iff, Int32.lt_iff_toInt_lt, Int32.le_iff_toInt_le, ← Int32.toInt_inj, Int32.reduceToInt, n_1, n_2, n_8, Int32.toNatClampNeg, Int64.lt_iff_toInt_lt, Int64.le_iff_toInt_le, ← Int64.toInt_inj, Int64.reduceToInt, Int32.toInt_toInt64, lg_cmp_ge, lg_cmp_le, lg_cmp_gt, lg_cmp_lt, lg_cmp_eq, Bool.false_eq_true, Bool.true_eq_false, reduceCtorEq, false_iff, true_iff, iff_true, iff_false, and_true, true_and, and_false, false_and, reduceIte, ite_true, ite_false, eq_self] at *)) <;> omega) ?_
          refine wa_top (fun v11 hv11 => ?_)
          have rv11 : 0 ≤ v11.toInt ∧ v11.toInt ≤ 24 := by rw [← hv11]; exact ar_at (ar_fm fs1 rfl rfl A_156) _
          clear hv11
          refine wa_ireturn rfl rfl ?_
          exact ⟨_, rfl, Fs1, trivial⟩
        ·
          by_cases h12 : q7 = 2
          · refine wa_tIn (by rw [h12]; decide) (by rw [h12]; decide) (by rw [h12] <;> rfl) o_X12_about_82 (by decide) ?_
            refine wa_aload_n (i := 0) rfl rfl ?_
            refine wa_iload_n (i := 1) rfl rfl ?_
            refine wa_Vl (d9 := d - 1) [.int _] [] (sp_X12_casesOf G (d := d - 1) (by omega) s1 _ (by ((try simp only [vp_in_iff, Int32.lt_iff_toInt_lt, Int32.le_iff_toInt_le, ← Int32.toInt_inj, Int32.reduceToInt, n_1, n_2, n_8, Int32.toNatClampNeg, Int64.lt_iff_toInt_lt, Int64.le_iff_toInt_le, ← Int64.toInt_inj, Int64.reduceToInt, Int32.toInt_toInt64, lg_cmp_ge, lg_cmp_le, lg_cmp_gt, lg_cmp_lt, lg_cmp_eq, Bool.false_eq_true, Bool.true_eq_false, reduceCtorEq, false_iff, true_iff, iff_true, iff_false, and_true, true_and, and_false, false_and, reduceIte, ite_true, ite_false, eq_self] at *)) <;> omega) (ar_fm fs1 rfl rfl A_183) (ar_fm fs1 rfl rfl A_186) (ar_fm fs1 rfl rfl A_187)) (rfl) rfl rfl (zr (by omega)) mk_X12_casesOf ly_84 ml_12_808 (Nat.le_of_ble_eq_true rfl) (fun x14 s13 hs13 => ?_)
            obtain ⟨zs13, -⟩ := pL hs13
            subst zs13
            refine wa_l2i ?_
            refine wa_top (fun v15 hv15 => ?_)
            have tv15 := i_l2iU hv15
            clear hv15
            refine wa_ireturn rfl rfl ?_
            exact ⟨_, rfl, Fs1, trivial⟩
          ·
            by_cases h16 : q7 = 3
            · refine wa_tIn (by rw [h16]; decide) (by rw [h16]; decide) (by rw [h16] <;> rfl) o_X12_about_89 (by decide) ?_
              refine wa_aload_n (i := 0) rfl rfl ?_
              refine wa_getr ck_12 fl_12_244 ly_84 rf_84_92 ?_
              refine wa_iload_n (i := 1) rfl rfl ?_
              refine wa_zald ly_153 (by ((try simp only [vp_in_iff, Int32.lt_iff_toInt_lt, Int32.le_iff_toInt_le, ← Int32.toInt_inj, Int32.reduceToInt, n_1, n_2, n_8, Int32.toNatClampNeg, Int64.lt_iff_toInt_lt, Int64.le_iff_toInt_le, ← Int64.toInt_inj, Int64.reduceToInt, Int32.toInt_toInt64, lg_cmp_ge, lg_cmp_le, lg_cmp_gt, lg_cmp_lt, lg_cmp_eq, Bool.false_eq_true, Bool.true_eq_false, reduceCtorEq, false_iff, true_iff, iff_true, iff_false, and_true, true_and, and_false, false_and, reduceIte, ite_true, ite_false, eq_self] at *)) <;> omega) ?_
              refine wa_if_eq o_X12_about_102 (by decide) (fun h17 => ?_) (fun h17 => ?_)
              · replace h17 := bI_f (b := (gb s1 153 (a0).toNatClampNeg)) (rfl) h17
                refine wa_iconst (v := 0) (by decide) ?_
                refine wa_ireturn rfl rfl ?_
                exact ⟨_, rfl, Fs1, trivial⟩
              · replace h17 := bI_t (b := (gb s1 153 (a0).toNatClampNeg)) (rfl) h17
                refine wa_iconst (v := 1) (by decide) ?_
                refine wa_goto o_X12_about_103 (by decide) ?_
                refine wa_ireturn rfl rfl ?_
                exact ⟨_, rfl, Fs1, trivial⟩
            ·
              by_cases h18 : q7 = 4
              · refine wa_tIn (by rw [h18]; decide) (by rw [h18]; decide) (by rw [h18] <;> rfl) o_X12_about_104 (by decide) ?_
                refine wa_aload_n (i := 0) rfl rfl ?_
                refine wa_getr ck_12 fl_12_268 ly_84 rf_84_104 ?_
                refine wa_iload_n (i := 1) rfl rfl ?_
                refine wa_iald ly_145 (by ((try simp only [vp_in_iff, Int32.lt_iff_toInt_lt, Int32.le_iff_toInt_le, ← Int32.toInt_inj, Int32.reduceToInt, n_1, n_2, n_8, Int32.toNatClampNeg, Int64.lt_iff_toInt_lt, Int64.le_iff_toInt_le, ← Int64.toInt_inj, Int64.reduceToInt, Int32.toInt_toInt64, lg_cmp_ge, lg_cmp_le, lg_cmp_gt, lg_cmp_lt, lg_cmp_eq, Bool.false_eq_true, Bool.true_eq_false, reduceCtorEq, false_iff, true_iff, iff_true, iff_false, and_true, true_and, and_false, false_and, reduceIte, ite_true, ite_false, eq_self] at *)) <;> omega) ?_
                refine wa_ireturn rfl rfl ?_
                exact ⟨_, rfl, Fs1, trivial⟩
              ·
                by_cases h19 : q7 = 5
                · refine wa_tIn (by rw [h19]; decide) (by rw [h19]; decide) (by rw [h19] <;> rfl) o_X12_about_111 (by decide) ?_
                  refine wa_aload_n (i := 0) rfl rfl ?_
                  refine wa_getr ck_12 fl_12_105 ly_84 rf_84_40 ?_
                  refine wa_iload_n (i := 1) rfl rfl ?_
                  refine wa_iald ly_199 (by ((try simp only [vp_in_iff, Int32.lt_iff_toInt_lt, Int32.le_iff_toInt_le, ← Int32.toInt_inj, Int32.reduceToInt, n_1, n_2, n_8, Int32.toNatClampNeg, Int64.lt_iff_toInt_lt, Int64.le_iff_toInt_le, ← Int64.toInt_inj, Int64.reduceToInt, Int32.toInt_toInt64, lg_cmp_ge, lg_cmp_le, lg_cmp_gt, lg_cmp_lt, lg_cmp_eq, Bool.false_eq_true, Bool.true_eq_false, reduceCtorEq, false_iff, true_iff, iff_true, iff_false, and_true, true_and, and_false, false_and, reduceIte, ite_true, ite_false, eq_self] at *)) <;> omega) ?_
                  refine wa_top (fun v20 hv20 => ?_)
                  have rv20 : 0 ≤ v20.toInt ∧ v20.toInt ≤ 120 := by rw [← hv20]; exact ar_at (ar_fm fs1 rfl rfl A_199) _
                  clear hv20
                  refine wa_ireturn rfl rfl ?_
                  exact ⟨_, rfl, Fs1, trivial⟩
                ·
                  refine wa_tOut (by (try simp only [vp_in_iff, Int32.lt_iff_toInt_lt, Int32.le_iff_toInt_le, ← Int32.toInt_inj, Int32.reduceToInt, n_1, n_2, n_8, Int32.toNatClampNeg, Int64.lt_iff_toInt_lt, Int64.le_iff_toInt_le, ← Int64.toInt_inj, Int64.reduceToInt, Int32.toInt_toInt64, lg_cmp_ge, lg_cmp_le, lg_cmp_gt, lg_cmp_lt, lg_cmp_eq] at *) <;> omega) o_X12_about_118 (by decide) ?_
                  refine wa_iconst (v := (-1)) (by decide) ?_
                  refine wa_ireturn rfl rfl ?_
                  exact ⟨_, rfl, Fs1, trivial⟩
    · replace h6 := bI_f (b := bx5) (rfl) h6
      have uh6_0 := iff_f cx5_1 h6
      refine wa_bipush (v := (-101)) (by decide) ?_
      refine wa_ireturn rfl rfl ?_
      exact ⟨_, rfl, Fs1, trivial⟩
  · replace h3 := bI_f (b := bx2) (rfl) h3
    refine wa_bipush (v := (-105)) (by decide) ?_
    refine wa_ireturn rfl rfl ?_
    exact ⟨_, rfl, Fs1, trivial⟩
set_option maxHeartbeats 4000000 in
theorem sp_X12_atom (G : kG9) {d : Nat} (hd : 2 ≤ d) (σ : St) (a0 : Int32) (a1 : Int32) (a2 : Int32) (r1 : 0 ≤ (gi σ 84 33).toInt ∧ (gi σ 84 33).toInt ≤ 24) (A_156 : AR ap_156 σ 156) (A_157 : AR ap_157 σ 157) (A_158 : AR ap_158 σ 158) (A_159 : AR ap_159 σ 159) : Ct G M_X12_atom d [.ref 84, .int a0, .int a1, .int a2] σ (fun r σ' => ∃ x : Int32, r = some (.int x) ∧ Fm [] [0] σ σ' ∧ True) := by
  refine wa_start (by decide) rfl (Nat.le_of_ble_eq_true rfl) (lv := [(0, .ref 84), (1, .int a0), (2, .int a1), (3, .int a2)]) rfl o_X12_atom_0 rfl ?_
  have ua0 := Int32.toInt_lt a0
  have wa0 := Int32.le_toInt a0
  have ua1 := Int32.toInt_lt a1
  have wa1 := Int32.le_toInt a1
  have ua2 := Int32.toInt_lt a2
  have wa2 := Int32.le_toInt a2
  refine wa_aload_n (i := 0) rfl rfl ?_
  refine wa_Vi (d9 := d - 1) [] [] (sp_X12_asks G (d := d - 1) (by omega) σ ) (rfl) rfl rfl (zr (by omega)) mk_X12_asks ly_84 ml_12_871 (Nat.le_of_ble_eq_true rfl) (fun x2 s1 hs1 => ?_)
  obtain ⟨bx2, ex2, fs1, -⟩ := pB hs1
  subst ex2
  have Fs1 : Fm [] [0] σ s1 := Fm.tr (Fm.rf [] [0] σ) (Fm.wd fs1 rfl rfl)
  refine wa_if_ne o_X12_atom_10 (by decide) (fun h3 => ?_) (fun h3 => ?_)
  · replace h3 := bI_t (b := bx2) (rfl) h3
    refine wa_aload_n (i := 0) rfl rfl ?_
    refine wa_iload_n (i := 1) rfl rfl ?_
    refine wa_Vi (d9 := d - 1) [.int _] [] (sp_X12_isClaim G (d := d - 1) (by omega) s1 _ (by rw [Fm.gi fs1 (q := 84) (k := 33) rfl rfl]; first | assumption | exact Or.inl rfl | exact Or.inr rfl | (((try simp only [vp_in_iff, Int32.lt_iff_toInt_lt, Int32.le_iff_toInt_le, ← Int32.toInt_inj, Int32.reduceToInt, n_1, n_2, n_8, Int32.toNatClampNeg, Int64.lt_iff_toInt_lt, Int64.le_iff_toInt_le, ← Int64.toInt_inj, Int64.reduceToInt, Int32.toInt_toInt64, lg_cmp_ge, lg_cmp_le, lg_cmp_gt, lg_cmp_lt, lg_cmp_eq, Bool.false_eq_true, Bool.true_eq_false, reduceCtorEq, false_iff, true_iff, iff_true, iff_false, and_true, true_and, and_false, false_and, reduceIte, ite_true, ite_false, eq_self] at *)) <;> omega))) (rfl) rfl rfl (zr (by omega)) mk_X12_isClaim ly_84 ml_12_877 (Nat.le_of_ble_eq_true rfl) (fun x5 s4 hs4 => ?_)
    obtain ⟨bx5, ex5, zs4, cx5_1, -⟩ := pB hs4
    subst ex5
    rw [Fm.gi fs1 (q := 84) (k := 33) rfl rfl] at cx5_1
    subst zs4
    refine wa_if_ne o_X12_atom_21 (by decide) (fun h6 => ?_) (fun h6 => ?_)
    · replace h6 := bI_t (b := bx5) (rfl) h6
      have uh6_0 := iff_t cx5_1 h6
      refine wa_iload_n (i := 2) rfl rfl ?_
      refine wa_i2l ?_
      refine wa_lconst (v := 0) (by decide) ?_
      refine wa_aload_n (i := 0) rfl rfl ?_
      refine wa_getr ck_12 fl_12_235 ly_84 rf_84_89 ?_
      refine wa_iload_n (i := 1) rfl rfl ?_
      refine wa_iald ly_156 (by ((try simp only [vp_in_iff, Int32.lt_iff_toInt_lt, Int32.le_iff_toInt_le, ← Int32.toInt_inj, Int32.reduceToInt, n_1, n_2, n_8, Int32.toNatClampNeg, Int64.lt_iff_toInt_lt, Int64.le_iff_toInt_le, ← Int64.toInt_inj, Int64.reduceToInt, Int32.toInt_toInt64, lg_cmp_ge, lg_cmp_le, lg_cmp_gt, lg_cmp_lt, lg_cmp_eq, Bool.false_eq_true, Bool.true_eq_false, reduceCtorEq, false_iff, true_iff, iff_true, iff_false, and_true, true_and, and_false, false_and, reduceIte, ite_true, ite_false, eq_self] at *)) <;> omega) ?_
      refine wa_top (fun v7 hv7 => ?_)
      have rv7 : 0 ≤ v7.toInt ∧ v7.toInt ≤ 24 := by rw [← hv7]; exact ar_at (ar_fm fs1 rfl rfl A_156) _
      clear hv7
      refine wa_iconst (v := 1) (by decide) ?_
      refine wa_isub ?_
      refine wa_top (fun v8 hv8 => ?_)
      have tv8 := i_subT hv8
      clear hv8
      refine wa_i2l ?_
      refine wa_Si (d9 := d - 1) [.long _, .long _, .long _] [] (sp_X12_in G (d := d - 1) (by omega) s1 _ _ _) (rfl) rfl rfl (zr (by omega)) mk_X12_in ml_12_504 (Nat.le_of_ble_eq_true rfl) (fun x10 s9 hs9 => ?_)
      obtain ⟨bx10, ex10, zs9, cx10_1, -⟩ := pB hs9
      subst ex10
      subst zs9
      refine wa_if_eq o_X12_atom_51 (by decide) (fun h11 => ?_) (fun h11 => ?_)
      · replace h11 := bI_f (b := bx10) (rfl) h11
        have uh11_0 := iff_f cx10_1 h11
        refine wa_bipush (v := (-102)) (by decide) ?_
        refine wa_ireturn rfl rfl ?_
        exact ⟨_, rfl, Fs1, trivial⟩
      · replace h11 := bI_t (b := bx10) (rfl) h11
        have uh11_0 := iff_t cx10_1 h11
        refine wa_iload_n (i := 3) rfl rfl ?_
        refine wa_i2l ?_
        refine wa_lconst (v := 0) (by decide) ?_
        refine wa_ldc2 (v := (5)) (allW_in (kT_14 _ (List.mem_of_getElem? (i := 4) rfl)) rfl) ?_
        refine wa_Si (d9 := d - 1) [.long _, .long _, .long _] [] (sp_X12_in G (d := d - 1) (by omega) s1 _ _ _) (rfl) rfl rfl (zr (by omega)) mk_X12_in ml_12_504 (Nat.le_of_ble_eq_true rfl) (fun x13 s12 hs12 => ?_)
        obtain ⟨bx13, ex13, zs12, cx13_1, -⟩ := pB hs12
        subst ex13
        subst zs12
        refine wa_if_ne o_X12_atom_54 (by decide) (fun h14 => ?_) (fun h14 => ?_)
        · replace h14 := bI_t (b := bx13) (rfl) h14
          have uh14_0 := iff_t cx13_1 h14
          refine wa_bipush (v := 24) (by decide) ?_
          refine wa_iload_n (i := 1) rfl rfl ?_
          refine wa_imul ?_
          refine wa_top (fun v15 hv15 => ?_)
          have tv15 := i_mulT hv15
          clear hv15
          refine wa_iload_n (i := 2) rfl rfl ?_
          refine wa_iadd ?_
          refine wa_top (fun v16 hv16 => ?_)
          have tv16 := i_addT hv16
          clear hv16
          refine wa_istoreD (lv' := [(4, .int v16), (0, .ref 84), (1, .int a0), (2, .int a1), (3, .int a2)]) (by decide) rfl ?_
          refine wa_iload_n (i := 3) rfl rfl ?_
          refine wa_iconst (v := 4) (by decide) ?_
          refine wa_icmp_ge o_X12_atom_81 (by decide) (fun h17 => ?_) (fun h17 => ?_)
          · refine wa_iload_n (i := 3) rfl rfl ?_
            refine wa_iconst (v := 4) (by decide) ?_
            refine wa_icmp_ne o_X12_atom_96 (by decide) (fun h18 => ?_) (fun h18 => ?_)
            · refine wa_aload_n (i := 0) rfl rfl ?_
              refine wa_getr ck_12 fl_12_232 ly_84 rf_84_88 ?_
              refine wa_iload rfl ?_
              refine wa_iald ly_157 (by ((try simp only [vp_in_iff, Int32.lt_iff_toInt_lt, Int32.le_iff_toInt_le, ← Int32.toInt_inj, Int32.reduceToInt, n_1, n_2, n_8, Int32.toNatClampNeg, Int64.lt_iff_toInt_lt, Int64.le_iff_toInt_le, ← Int64.toInt_inj, Int64.reduceToInt, Int32.toInt_toInt64, lg_cmp_ge, lg_cmp_le, lg_cmp_gt, lg_cmp_lt, lg_cmp_eq, Bool.false_eq_true, Bool.true_eq_false, reduceCtorEq, false_iff, true_iff, iff_true, iff_false, and_true, true_and, and_false, false_and, reduceIte, ite_true, ite_false, eq_self] at *)) <;> omega) ?_
              refine wa_top (fun v19 hv19 => ?_)
              have rv19 : 0 ≤ v19.toInt ∧ v19.toInt ≤ 12 := by rw [← hv19]; exact ar_at (ar_fm fs1 rfl rfl A_157) _
              clear hv19
              refine wa_ireturn rfl rfl ?_
              exact ⟨_, rfl, Fs1, trivial⟩
            · refine wa_aload_n (i := 0) rfl rfl ?_
              refine wa_getr ck_12 fl_12_229 ly_84 rf_84_87 ?_
              refine wa_iload rfl ?_
              refine wa_iald ly_158 (by ((try simp only [vp_in_iff, Int32.lt_iff_toInt_lt, Int32.le_iff_toInt_le, ← Int32.toInt_inj, Int32.reduceToInt, n_1, n_2, n_8, Int32.toNatClampNeg, Int64.lt_iff_toInt_lt, Int64.le_iff_toInt_le, ← Int64.toInt_inj, Int64.reduceToInt, Int32.toInt_toInt64, lg_cmp_ge, lg_cmp_le, lg_cmp_gt, lg_cmp_lt, lg_cmp_eq, Bool.false_eq_true, Bool.true_eq_false, reduceCtorEq, false_iff, true_iff, iff_true, iff_false, and_true, true_and, and_false, false_and, reduceIte, ite_true, ite_false, eq_self] at *)) <;> omega) ?_
              refine wa_top (fun v20 hv20 => ?_)
              have rv20 : -99999 ≤ v20.toInt ∧ v20.toInt ≤ 99999 := by rw [← hv20]; exact ar_at (ar_fm fs1 rfl rfl A_158) _
              clear hv20
              refine wa_goto o_X12_atom_103 (by decide) ?_
              refine wa_ireturn rfl rfl ?_
              exact ⟨_, rfl, Fs1, trivial⟩
          · have mh17 := nle_mx h17
            refine wa_aload_n (i := 0) rfl rfl ?_
            refine wa_getr ck_12 fl_12_226 ly_84 rf_84_86 ?_
            refine wa_iconst (v := 4) (by decide) ?_
            refine wa_iload rfl ?_
            refine wa_imul ?_
            refine wa_top (fun v21 hv21 => ?_)
            have tv21 := i_mulT hv21
            clear hv21
            refine wa_iload_n (i := 3) rfl rfl ?_
            refine wa_iadd ?_
            refine wa_top (fun v22 hv22 => ?_)
            have tv22 := i_addT hv22
            clear hv22
            refine wa_iald ly_159 (by ((try simp only [vp_in_iff, Int32.lt_iff_toInt_lt, Int32.le_iff_toInt_le, ← Int32.toInt_inj, Int32.reduceToInt, n_1, n_2, n_8, Int32.toNatClampNeg, Int64.lt_iff_toInt_lt, Int64.le_iff_toInt_le, ← Int64.toInt_inj, Int64.reduceToInt, Int32.toInt_toInt64, lg_cmp_ge, lg_cmp_le, lg_cmp_gt, lg_cmp_lt, lg_cmp_eq, Bool.false_eq_true, Bool.true_eq_false, reduceCtorEq, false_iff, true_iff, iff_true, iff_false, and_true, true_and, and_false, false_and, reduceIte, ite_true, ite_false, eq_self] at *)) <;> omega) ?_
            refine wa_top (fun v23 hv23 => ?_)
            have rv23 : -20 ≤ v23.toInt ∧ v23.toInt ≤ 20 := by rw [← hv23]; exact ar_at (ar_fm fs1 rfl rfl A_159) _
            clear hv23
            refine wa_goto o_X12_atom_103 (by decide) ?_
            refine wa_ireturn rfl rfl ?_
            exact ⟨_, rfl, Fs1, trivial⟩
        · replace h14 := bI_f (b := bx13) (rfl) h14
          have uh14_0 := iff_f cx13_1 h14
          refine wa_bipush (v := (-102)) (by decide) ?_
          refine wa_ireturn rfl rfl ?_
          exact ⟨_, rfl, Fs1, trivial⟩
    · replace h6 := bI_f (b := bx5) (rfl) h6
      have uh6_0 := iff_f cx5_1 h6
      refine wa_bipush (v := (-101)) (by decide) ?_
      refine wa_ireturn rfl rfl ?_
      exact ⟨_, rfl, Fs1, trivial⟩
  · replace h3 := bI_f (b := bx2) (rfl) h3
    refine wa_bipush (v := (-105)) (by decide) ?_
    refine wa_ireturn rfl rfl ?_
    exact ⟨_, rfl, Fs1, trivial⟩
set_option maxHeartbeats 4000000 in
theorem sp_X12_printed (G : kG9) {d : Nat} (hd : 1 ≤ d) (σ : St) (a0 : Int32) (r1 : 0 ≤ (gi σ 84 112).toInt ∧ (gi σ 84 112).toInt ≤ 4000) : Ct G M_X12_printed d [.ref 84, .int a0] σ (fun r σ' => ∃ x : Int32, r = some (.int x) ∧ Fm [] [0] σ σ' ∧ True) := by
  refine wa_start (by decide) rfl (Nat.le_of_ble_eq_true rfl) (lv := [(0, .ref 84), (1, .int a0)]) rfl o_X12_printed_0 rfl ?_
  have ua0 := Int32.toInt_lt a0
  have wa0 := Int32.le_toInt a0
  refine wa_aload_n (i := 0) rfl rfl ?_
  refine wa_iconst (v := 0) (by decide) ?_
  refine wa_puti ck_12 fl_12_3 ly_84 (fun s1 hs1 => ?_)
  have Fs1 : Fm [] [0] σ s1 := by rw [hs1]; exact Fm.si (Fm.rf [] [0] σ) rfl
  refine wa_iload_n (i := 1) rfl rfl ?_
  refine wa_i2l ?_
  refine wa_lconst (v := 0) (by decide) ?_
  refine wa_aload_n (i := 0) rfl rfl ?_
  refine wa_geti ck_12 fl_12_882 ly_84 ?_
  refine wa_rw (nxk_gi_si hs1 (by decide)) ?_
  refine wa_iconst (v := 1) (by decide) ?_
  refine wa_isub ?_
  refine wa_top (fun v2 hv2 => ?_)
  have tv2 := i_subT hv2
  clear hv2
  refine wa_i2l ?_
  refine wa_Si (d9 := d - 1) [.long _, .long _, .long _] [] (sp_X12_in G (d := d - 1) (by omega) s1 _ _ _) (rfl) rfl rfl (zr (by omega)) mk_X12_in ml_12_504 (Nat.le_of_ble_eq_true rfl) (fun x4 s3 hs3 => ?_)
  obtain ⟨bx4, ex4, zs3, cx4_1, -⟩ := pB hs3
  subst ex4
  subst zs3
  refine wa_if_eq o_X12_printed_34 (by decide) (fun h5 => ?_) (fun h5 => ?_)
  · replace h5 := bI_f (b := bx4) (rfl) h5
    have uh5_0 := iff_f cx4_1 h5
    refine wa_iconst (v := (-1)) (by decide) ?_
    refine wa_ireturn rfl rfl ?_
    exact ⟨_, rfl, Fs1, trivial⟩
  · replace h5 := bI_t (b := bx4) (rfl) h5
    have uh5_0 := iff_t cx4_1 h5
    refine wa_aload_n (i := 0) rfl rfl ?_
    refine wa_getr ck_12 fl_12_283 ly_84 rf_84_111 ?_
    refine wa_iload_n (i := 1) rfl rfl ?_
    refine wa_bald ly_140 (by ((try simp only [vp_in_iff, Int32.lt_iff_toInt_lt, Int32.le_iff_toInt_le, ← Int32.toInt_inj, Int32.reduceToInt, n_1, n_2, n_8, Int32.toNatClampNeg, Int64.lt_iff_toInt_lt, Int64.le_iff_toInt_le, ← Int64.toInt_inj, Int64.reduceToInt, Int32.toInt_toInt64, lg_cmp_ge, lg_cmp_le, lg_cmp_gt, lg_cmp_lt, lg_cmp_eq, Bool.false_eq_true, Bool.true_eq_false, reduceCtorEq, false_iff, true_iff, iff_true, iff_false, and_true, true_and, and_false, false_and, reduceIte, ite_true, ite_false, eq_self] at *)) <;> omega) ?_
    refine wa_sipush (v := 255) (by decide) ?_
    refine wa_iand ?_
    refine wa_top (fun v6 hv6 => ?_)
    have tv6 := i_andT hv6
    clear hv6
    refine wa_goto o_X12_printed_35 (by decide) ?_
    refine wa_ireturn rfl rfl ?_
    exact ⟨_, rfl, Fs1, trivial⟩
set_option maxHeartbeats 4000000 in
theorem sp_X12_idle (G : kG9) {d : Nat} (hd : 0 ≤ d) (σ : St) : Ct G M_X12_idle d [.ref 84] σ (fun r σ' => Fm [133] [119] σ σ' ∧ ((gi σ' 84 119).toInt = 0) ∧ INW σ' ∧ True) := by
  refine wa_start (by decide) rfl (Nat.le_of_ble_eq_true rfl) (lv := [(0, .ref 84)]) rfl o_X12_idle_0 rfl ?_
  refine wa_aload_n (i := 0) rfl rfl ?_
  refine wa_iconst (v := 0) (by decide) ?_
  refine wa_puti ck_12 fl_12_928 ly_84 (fun s1 hs1 => ?_)
  have Fs1 : Fm [133] [119] σ s1 := by rw [hs1]; exact Fm.si (Fm.rf [133] [119] σ) rfl
  refine wa_iconst (v := 0) (by decide) ?_
  refine wa_istore_nD (lv' := [(1, .int 0), (0, .ref 84)]) (i := 1) rfl (by decide) rfl ?_
  refine wa_pick [1, 0] rfl ?_
  have hi4 : ∀ (n9_7 : Nat) (l1 : Int32) (s2 : St), ((Fm [133] [119] σ s2) ∧ (gi s2 84 119 = (0 : Int32)) ∧ (0 ≤ l1.toInt) ∧ (∀ k : Nat, (k : Int) < l1.toInt → gb s2 133 k = false) ∧ (True)) → (2147483647 - l1.toInt).toNat = n9_7 → WA G M_X12_idle (ZM G M_X12_idle d (fun r σ' => Fm [133] [119] σ σ' ∧ ((gi σ' 84 119).toInt = 0) ∧ INW σ' ∧ True)) B_X12_idle_7 [(0, .ref 84), (1, .int l1)] [] s2 := by
    intro n9_7
    induction n9_7 using Nat.strongRecOn with
    | _ n9_7 ih3 =>
      intro l1 s2 i9 m9_7
      obtain ⟨Fs2, khi4_0, jhi4_0, jhi4_1, -⟩ := i9
      have ul1 := Int32.toInt_lt l1
      have wl1 := Int32.le_toInt l1
      refine wa_iload_n (i := 1) rfl rfl ?_
      refine wa_bipush (v := 25) (by decide) ?_
      refine wa_icmp_gt o_X12_idle_26 (by decide) (fun h5 => ?_) (fun h5 => ?_)
      · have Ps2_INW : INW s2 := inw_none (fun k hk => ‹∀ k : Nat, (k : Int) < _ → gb _ 133 k = false› k (by ((try simp only [vp_in_iff, Int32.lt_iff_toInt_lt, Int32.le_iff_toInt_le, ← Int32.toInt_inj, Int32.reduceToInt, n_1, n_2, n_8, Int32.toNatClampNeg, Int64.lt_iff_toInt_lt, Int64.le_iff_toInt_le, ← Int64.toInt_inj, Int64.reduceToInt, Int32.toInt_toInt64, lg_cmp_ge, lg_cmp_le, lg_cmp_gt, lg_cmp_lt, lg_cmp_eq, Bool.false_eq_true, Bool.true_eq_false, reduceCtorEq, false_iff, true_iff, iff_true, iff_false, and_true, true_and, and_false, false_and, reduceIte, ite_true, ite_false, eq_self] at *)) <;> omega))
        refine wa_return (st := []) rfl rfl ?_
        exact ⟨Fs2, (by rw [khi4_0]; first | assumption | (((try simp only [vp_in_iff, Int32.lt_iff_toInt_lt, Int32.le_iff_toInt_le, ← Int32.toInt_inj, Int32.reduceToInt, n_1, n_2, n_8, Int32.toNatClampNeg, Int64.lt_iff_toInt_lt, Int64.le_iff_toInt_le, ← Int64.toInt_inj, Int64.reduceToInt, Int32.toInt_toInt64, lg_cmp_ge, lg_cmp_le, lg_cmp_gt, lg_cmp_lt, lg_cmp_eq, Bool.false_eq_true, Bool.true_eq_false, reduceCtorEq, false_iff, true_iff, iff_true, iff_false, and_true, true_and, and_false, false_and, reduceIte, ite_true, ite_false, eq_self] at *)) <;> omega)), Ps2_INW, trivial⟩
      · refine wa_aload_n (i := 0) rfl rfl ?_
        refine wa_getr ck_12 fl_12_304 ly_84 rf_84_121 ?_
        refine wa_iload_n (i := 1) rfl rfl ?_
        refine wa_iconst (v := 0) (by decide) ?_
        refine wa_zast false (rfl) ly_133 (by ((try simp only [vp_in_iff, Int32.lt_iff_toInt_lt, Int32.le_iff_toInt_le, ← Int32.toInt_inj, Int32.reduceToInt, n_1, n_2, n_8, Int32.toNatClampNeg, Int64.lt_iff_toInt_lt, Int64.le_iff_toInt_le, ← Int64.toInt_inj, Int64.reduceToInt, Int32.toInt_toInt64, lg_cmp_ge, lg_cmp_le, lg_cmp_gt, lg_cmp_lt, lg_cmp_eq, Bool.false_eq_true, Bool.true_eq_false, reduceCtorEq, false_iff, true_iff, iff_true, iff_false, and_true, true_and, and_false, false_and, reduceIte, ite_true, ite_false, eq_self] at *)) <;> omega) (fun s6 hs6 => ?_)
        have Fs6 : Fm [133] [119] σ s6 := by rw [hs6]; exact Fm.sb Fs2 rfl
        refine wa_iinc (v := (1)) (lv' := fun y7 => [(1, .int y7), (0, .ref 84)]) (by decide) rfl (by decide) (fun _ => rfl) (fun y7 hy7 => ?_)
        have ty7 := i_addT hy7.symm
        clear hy7
        refine wa_goto o_X12_idle_7 (by decide) ?_
        refine wa_pick [1, 0] rfl ?_
        exact ih3 _ (by ((try simp only [vp_in_iff, Int32.lt_iff_toInt_lt, Int32.le_iff_toInt_le, ← Int32.toInt_inj, Int32.reduceToInt, n_1, n_2, n_8, Int32.toNatClampNeg, Int64.lt_iff_toInt_lt, Int64.le_iff_toInt_le, ← Int64.toInt_inj, Int64.reduceToInt, Int32.toInt_toInt64, lg_cmp_ge, lg_cmp_le, lg_cmp_gt, lg_cmp_lt, lg_cmp_eq, Bool.false_eq_true, Bool.true_eq_false, reduceCtorEq, false_iff, true_iff, iff_true, iff_false, and_true, true_and, and_false, false_and, reduceIte, ite_true, ite_false, eq_self] at *)) <;> omega) _ _ ⟨Fs6, ((nx_gi_sb hs6).trans (khi4_0)), (by ((try simp only [vp_in_iff, Int32.lt_iff_toInt_lt, Int32.le_iff_toInt_le, ← Int32.toInt_inj, Int32.reduceToInt, n_1, n_2, n_8, Int32.toNatClampNeg, Int64.lt_iff_toInt_lt, Int64.le_iff_toInt_le, ← Int64.toInt_inj, Int64.reduceToInt, Int32.toInt_toInt64, lg_cmp_ge, lg_cmp_le, lg_cmp_gt, lg_cmp_lt, lg_cmp_eq, Bool.false_eq_true, Bool.true_eq_false, reduceCtorEq, false_iff, true_iff, iff_true, iff_false, and_true, true_and, and_false, false_and, reduceIte, ite_true, ite_false, eq_self] at *)) <;> omega), (by first | exact allb_w hs6 (by assumption) (by ((try simp only [vp_in_iff, Int32.lt_iff_toInt_lt, Int32.le_iff_toInt_le, ← Int32.toInt_inj, Int32.reduceToInt, n_1, n_2, n_8, Int32.toNatClampNeg, Int64.lt_iff_toInt_lt, Int64.le_iff_toInt_le, ← Int64.toInt_inj, Int64.reduceToInt, Int32.toInt_toInt64, lg_cmp_ge, lg_cmp_le, lg_cmp_gt, lg_cmp_lt, lg_cmp_eq, Bool.false_eq_true, Bool.true_eq_false, reduceCtorEq, false_iff, true_iff, iff_true, iff_false, and_true, true_and, and_false, false_and, reduceIte, ite_true, ite_false, eq_self] at *)) <;> omega) (by ((try simp only [vp_in_iff, Int32.lt_iff_toInt_lt, Int32.le_iff_toInt_le, ← Int32.toInt_inj, Int32.reduceToInt, n_1, n_2, n_8, Int32.toNatClampNeg, Int64.lt_iff_toInt_lt, Int64.le_iff_toInt_le, ← Int64.toInt_inj, Int64.reduceToInt, Int32.toInt_toInt64, lg_cmp_ge, lg_cmp_le, lg_cmp_gt, lg_cmp_lt, lg_cmp_eq, Bool.false_eq_true, Bool.true_eq_false, reduceCtorEq, false_iff, true_iff, iff_true, iff_false, and_true, true_and, and_false, false_and, reduceIte, ite_true, ite_false, eq_self] at *)) <;> omega) | exact no_0 (by decide)), trivial⟩ rfl
  exact hi4 _ _ _ ⟨Fs1, (nxe_gi_si hs1), (by ((try simp only [vp_in_iff, Int32.lt_iff_toInt_lt, Int32.le_iff_toInt_le, ← Int32.toInt_inj, Int32.reduceToInt, n_1, n_2, n_8, Int32.toNatClampNeg, Int64.lt_iff_toInt_lt, Int64.le_iff_toInt_le, ← Int64.toInt_inj, Int64.reduceToInt, Int32.toInt_toInt64, lg_cmp_ge, lg_cmp_le, lg_cmp_gt, lg_cmp_lt, lg_cmp_eq, Bool.false_eq_true, Bool.true_eq_false, reduceCtorEq, false_iff, true_iff, iff_true, iff_false, and_true, true_and, and_false, false_and, reduceIte, ite_true, ite_false, eq_self] at *)) <;> omega), (by first | exact allb_w hs1 (by assumption) (by ((try simp only [vp_in_iff, Int32.lt_iff_toInt_lt, Int32.le_iff_toInt_le, ← Int32.toInt_inj, Int32.reduceToInt, n_1, n_2, n_8, Int32.toNatClampNeg, Int64.lt_iff_toInt_lt, Int64.le_iff_toInt_le, ← Int64.toInt_inj, Int64.reduceToInt, Int32.toInt_toInt64, lg_cmp_ge, lg_cmp_le, lg_cmp_gt, lg_cmp_lt, lg_cmp_eq, Bool.false_eq_true, Bool.true_eq_false, reduceCtorEq, false_iff, true_iff, iff_true, iff_false, and_true, true_and, and_false, false_and, reduceIte, ite_true, ite_false, eq_self] at *)) <;> omega) (by ((try simp only [vp_in_iff, Int32.lt_iff_toInt_lt, Int32.le_iff_toInt_le, ← Int32.toInt_inj, Int32.reduceToInt, n_1, n_2, n_8, Int32.toNatClampNeg, Int64.lt_iff_toInt_lt, Int64.le_iff_toInt_le, ← Int64.toInt_inj, Int64.reduceToInt, Int32.toInt_toInt64, lg_cmp_ge, lg_cmp_le, lg_cmp_gt, lg_cmp_lt, lg_cmp_eq, Bool.false_eq_true, Bool.true_eq_false, reduceCtorEq, false_iff, true_iff, iff_true, iff_false, and_true, true_and, and_false, false_and, reduceIte, ite_true, ite_false, eq_self] at *)) <;> omega) | exact no_0 (by decide)), trivial⟩ rfl
set_option maxHeartbeats 4000000 in
theorem sp_X12_workAt (G : kG9) {d : Nat} (hd : 0 ≤ d) (σ : St) (a0 : Int32) (p1 : 0 ≤ a0.toInt ∧ a0.toInt < 624) (r1 : (gi σ 84 119).toInt ≤ 700) (A_135 : AR ap_135 σ 135) (A_136 : AR ap_136 σ 136) (A_137 : AR ap_137 σ 137) (A_157 : AR ap_157 σ 157) (A_158 : AR ap_158 σ 158) (A_159 : AR ap_159 σ 159) : Ct G M_X12_workAt d [.ref 84, .int a0] σ (fun r σ' => ∃ x : Int32, r = some (.int x) ∧ σ = σ' ∧ ((x.toInt = -1 ∧ ∀ k : Nat, (k : Int) < (gi σ 84 119).toInt → ¬ EQR σ (a0).toNatClampNeg k) ∨ (0 ≤ x.toInt ∧ x.toInt < (gi σ 84 119).toInt ∧ EQR σ (a0).toNatClampNeg (x).toNatClampNeg)) ∧ True) := by
  refine wa_start (by decide) rfl (Nat.le_of_ble_eq_true rfl) (lv := [(0, .ref 84), (1, .int a0)]) rfl o_X12_workAt_0 rfl ?_
  have ua0 := Int32.toInt_lt a0
  have wa0 := Int32.le_toInt a0
  refine wa_iconst (v := 0) (by decide) ?_
  refine wa_istore_nD (lv' := [(2, .int 0), (0, .ref 84), (1, .int a0)]) (i := 2) rfl (by decide) rfl ?_
  refine wa_pick [1, 2, 0] rfl ?_
  have hi2 : ∀ (n9_2 : Nat) (l2 : Int32), ((0 ≤ l2.toInt) ∧ (∀ k : Nat, (k : Int) < l2.toInt → ¬ EQR σ (a0).toNatClampNeg k) ∧ (True)) → (2147483647 - l2.toInt).toNat = n9_2 → WA G M_X12_workAt (ZM G M_X12_workAt d (fun r σ' => ∃ x : Int32, r = some (.int x) ∧ σ = σ' ∧ ((x.toInt = -1 ∧ ∀ k : Nat, (k : Int) < (gi σ 84 119).toInt → ¬ EQR σ (a0).toNatClampNeg k) ∨ (0 ≤ x.toInt ∧ x.toInt < (gi σ 84 119).toInt ∧ EQR σ (a0).toNatClampNeg (x).toNatClampNeg)) ∧ True)) B_X12_workAt_2 [(0, .ref 84), (1, .int a0), (2, .int l2)] [] σ := by
    intro n9_2
    induction n9_2 using Nat.strongRecOn with
    | _ n9_2 ih1 =>
      intro l2  i9 m9_2
      obtain ⟨jhi2_0, jhi2_1, -⟩ := i9
      have ul2 := Int32.toInt_lt l2
      have wl2 := Int32.le_toInt l2
      refine wa_iload_n (i := 2) rfl rfl ?_
      refine wa_aload_n (i := 0) rfl rfl ?_
      refine wa_geti ck_12 fl_12_928 ly_84 ?_
      refine wa_icmp_ge o_X12_workAt_108 (by decide) (fun h3 => ?_) (fun h3 => ?_)
      · refine wa_iconst (v := (-1)) (by decide) ?_
        refine wa_ireturn rfl rfl ?_
        exact ⟨_, rfl, rfl, (by first | exact Or.inr ⟨by ((try simp only [vp_in_iff, Int32.lt_iff_toInt_lt, Int32.le_iff_toInt_le, ← Int32.toInt_inj, Int32.reduceToInt, n_1, n_2, n_8, Int32.toNatClampNeg, Int64.lt_iff_toInt_lt, Int64.le_iff_toInt_le, ← Int64.toInt_inj, Int64.reduceToInt, Int32.toInt_toInt64, lg_cmp_ge, lg_cmp_le, lg_cmp_gt, lg_cmp_lt, lg_cmp_eq, Bool.false_eq_true, Bool.true_eq_false, reduceCtorEq, false_iff, true_iff, iff_true, iff_false, and_true, true_and, and_false, false_and, reduceIte, ite_true, ite_false, eq_self] at *)) <;> omega, by ((try simp only [vp_in_iff, Int32.lt_iff_toInt_lt, Int32.le_iff_toInt_le, ← Int32.toInt_inj, Int32.reduceToInt, n_1, n_2, n_8, Int32.toNatClampNeg, Int64.lt_iff_toInt_lt, Int64.le_iff_toInt_le, ← Int64.toInt_inj, Int64.reduceToInt, Int32.toInt_toInt64, lg_cmp_ge, lg_cmp_le, lg_cmp_gt, lg_cmp_lt, lg_cmp_eq, Bool.false_eq_true, Bool.true_eq_false, reduceCtorEq, false_iff, true_iff, iff_true, iff_false, and_true, true_and, and_false, false_and, reduceIte, ite_true, ite_false, eq_self] at *)) <;> omega, eqr_of (by assumption) (by assumption) (by ((try simp only [vp_in_iff, Int32.lt_iff_toInt_lt, Int32.le_iff_toInt_le, ← Int32.toInt_inj, Int32.reduceToInt, n_1, n_2, n_8, Int32.toNatClampNeg, Int64.lt_iff_toInt_lt, Int64.le_iff_toInt_le, ← Int64.toInt_inj, Int64.reduceToInt, Int32.toInt_toInt64, lg_cmp_ge, lg_cmp_le, lg_cmp_gt, lg_cmp_lt, lg_cmp_eq, Bool.false_eq_true, Bool.true_eq_false, reduceCtorEq, false_iff, true_iff, iff_true, iff_false, and_true, true_and, and_false, false_and, reduceIte, ite_true, ite_false, eq_self] at *)) <;> omega)⟩ | exact Or.inl ⟨by decide, no_end (by assumption) (by ((try simp only [vp_in_iff, Int32.lt_iff_toInt_lt, Int32.le_iff_toInt_le, ← Int32.toInt_inj, Int32.reduceToInt, n_1, n_2, n_8, Int32.toNatClampNeg, Int64.lt_iff_toInt_lt, Int64.le_iff_toInt_le, ← Int64.toInt_inj, Int64.reduceToInt, Int32.toInt_toInt64, lg_cmp_ge, lg_cmp_le, lg_cmp_gt, lg_cmp_lt, lg_cmp_eq, Bool.false_eq_true, Bool.true_eq_false, reduceCtorEq, false_iff, true_iff, iff_true, iff_false, and_true, true_and, and_false, false_and, reduceIte, ite_true, ite_false, eq_self] at *)) <;> omega)⟩), trivial⟩
      · have mh3 := nle_mx h3
        refine wa_aload_n (i := 0) rfl rfl ?_
        refine wa_getr ck_12 fl_12_298 ly_84 rf_84_118 ?_
        refine wa_iload_n (i := 2) rfl rfl ?_
        refine wa_iald ly_135 (by ((try simp only [vp_in_iff, Int32.lt_iff_toInt_lt, Int32.le_iff_toInt_le, ← Int32.toInt_inj, Int32.reduceToInt, n_1, n_2, n_8, Int32.toNatClampNeg, Int64.lt_iff_toInt_lt, Int64.le_iff_toInt_le, ← Int64.toInt_inj, Int64.reduceToInt, Int32.toInt_toInt64, lg_cmp_ge, lg_cmp_le, lg_cmp_gt, lg_cmp_lt, lg_cmp_eq, Bool.false_eq_true, Bool.true_eq_false, reduceCtorEq, false_iff, true_iff, iff_true, iff_false, and_true, true_and, and_false, false_and, reduceIte, ite_true, ite_false, eq_self] at *)) <;> omega) ?_
        refine wa_top (fun v4 hv4 => ?_)
        have rv4 : 0 ≤ v4.toInt ∧ v4.toInt ≤ 12 := by rw [← hv4]; exact ar_at A_135 _
        have qv4 := hv4
        clear hv4
        refine wa_aload_n (i := 0) rfl rfl ?_
        refine wa_getr ck_12 fl_12_232 ly_84 rf_84_88 ?_
        refine wa_iload_n (i := 1) rfl rfl ?_
        refine wa_iald ly_157 (by ((try simp only [vp_in_iff, Int32.lt_iff_toInt_lt, Int32.le_iff_toInt_le, ← Int32.toInt_inj, Int32.reduceToInt, n_1, n_2, n_8, Int32.toNatClampNeg, Int64.lt_iff_toInt_lt, Int64.le_iff_toInt_le, ← Int64.toInt_inj, Int64.reduceToInt, Int32.toInt_toInt64, lg_cmp_ge, lg_cmp_le, lg_cmp_gt, lg_cmp_lt, lg_cmp_eq, Bool.false_eq_true, Bool.true_eq_false, reduceCtorEq, false_iff, true_iff, iff_true, iff_false, and_true, true_and, and_false, false_and, reduceIte, ite_true, ite_false, eq_self] at *)) <;> omega) ?_
        refine wa_top (fun v5 hv5 => ?_)
        have rv5 : 0 ≤ v5.toInt ∧ v5.toInt ≤ 12 := by rw [← hv5]; exact ar_at A_157 _
        have qv5 := hv5
        clear hv5
        refine wa_icmp_ne o_X12_workAt_44 (by decide) (fun h6 => ?_) (fun h6 => ?_)
        · refine wa_iconst (v := 0) (by decide) ?_
          refine wa_istore_nD (lv' := [(3, .int (bI false)), (0, .ref 84), (1, .int a0), (2, .int l2)]) (i := 3) rfl (by decide) rfl ?_
          refine wa_iconst (v := 0) (by decide) ?_
          refine wa_istoreD (lv' := [(4, .int 0), (3, .int (bI false)), (0, .ref 84), (1, .int a0), (2, .int l2)]) (by decide) rfl ?_
          refine wa_pick [2, 3, 4, 1, 0] rfl ?_
          have hi8 : ∀ (n9_49 : Nat) (l3 : Bool) (l4 : Int32), ((0 ≤ l4.toInt) ∧ (0 ≤ l4.toInt ∧ l4.toInt ≤ 4) ∧ (l3 = true ↔ (gi σ 157 (a0).toNatClampNeg = gi σ 135 (l2).toNatClampNeg ∧ gi σ 158 (a0).toNatClampNeg = gi σ 136 (l2).toNatClampNeg) ∧ ∀ v : Nat, (v : Int) < l4.toInt → gi σ 159 (4 * (a0).toNatClampNeg + v) = gi σ 137 (4 * (l2).toNatClampNeg + v)) ∧ (True)) → (2147483647 - l4.toInt).toNat = n9_49 → WA G M_X12_workAt (ZM G M_X12_workAt d (fun r σ' => ∃ x : Int32, r = some (.int x) ∧ σ = σ' ∧ ((x.toInt = -1 ∧ ∀ k : Nat, (k : Int) < (gi σ 84 119).toInt → ¬ EQR σ (a0).toNatClampNeg k) ∨ (0 ≤ x.toInt ∧ x.toInt < (gi σ 84 119).toInt ∧ EQR σ (a0).toNatClampNeg (x).toNatClampNeg)) ∧ True)) B_X12_workAt_49 [(0, .ref 84), (1, .int a0), (2, .int l2), (3, .int (bI l3)), (4, .int l4)] [] σ := by
            intro n9_49
            induction n9_49 using Nat.strongRecOn with
            | _ n9_49 ih7 =>
              intro l3 l4  i9 m9_49
              obtain ⟨jhi8_0, jhi8_1, jhi8_2, -⟩ := i9
              have ul4 := Int32.toInt_lt l4
              have wl4 := Int32.le_toInt l4
              refine wa_iload rfl ?_
              refine wa_iconst (v := 4) (by decide) ?_
              refine wa_icmp_ge o_X12_workAt_96 (by decide) (fun h9 => ?_) (fun h9 => ?_)
              · refine wa_iload_n (i := 3) rfl rfl ?_
                refine wa_if_eq o_X12_workAt_102 (by decide) (fun h10 => ?_) (fun h10 => ?_)
                · replace h10 := bI_f (b := l3) (rfl) h10
                  refine wa_iinc (v := (1)) (lv' := fun y11 => [(2, .int y11), (0, .ref 84), (1, .int a0), (3, .int (bI l3)), (4, .int l4)]) (by decide) rfl (by decide) (fun _ => rfl) (fun y11 hy11 => ?_)
                  have ty11 := i_addT hy11.symm
                  clear hy11
                  refine wa_goto o_X12_workAt_2 (by decide) ?_
                  refine wa_pick [1, 2, 0] rfl ?_
                  exact ih1 _ (by ((try simp only [vp_in_iff, Int32.lt_iff_toInt_lt, Int32.le_iff_toInt_le, ← Int32.toInt_inj, Int32.reduceToInt, n_1, n_2, n_8, Int32.toNatClampNeg, Int64.lt_iff_toInt_lt, Int64.le_iff_toInt_le, ← Int64.toInt_inj, Int64.reduceToInt, Int32.toInt_toInt64, lg_cmp_ge, lg_cmp_le, lg_cmp_gt, lg_cmp_lt, lg_cmp_eq, Bool.false_eq_true, Bool.true_eq_false, reduceCtorEq, false_iff, true_iff, iff_true, iff_false, and_true, true_and, and_false, false_and, reduceIte, ite_true, ite_false, eq_self] at *)) <;> omega) _ ⟨(by ((try simp only [vp_in_iff, Int32.lt_iff_toInt_lt, Int32.le_iff_toInt_le, ← Int32.toInt_inj, Int32.reduceToInt, n_1, n_2, n_8, Int32.toNatClampNeg, Int64.lt_iff_toInt_lt, Int64.le_iff_toInt_le, ← Int64.toInt_inj, Int64.reduceToInt, Int32.toInt_toInt64, lg_cmp_ge, lg_cmp_le, lg_cmp_gt, lg_cmp_lt, lg_cmp_eq, Bool.false_eq_true, Bool.true_eq_false, reduceCtorEq, false_iff, true_iff, iff_true, iff_false, and_true, true_and, and_false, false_and, reduceIte, ite_true, ite_false, eq_self] at *)) <;> omega), (by first | exact no_step (by assumption) (by ((try simp only [vp_in_iff, Int32.lt_iff_toInt_lt, Int32.le_iff_toInt_le, ← Int32.toInt_inj, Int32.reduceToInt, n_1, n_2, n_8, Int32.toNatClampNeg, Int64.lt_iff_toInt_lt, Int64.le_iff_toInt_le, ← Int64.toInt_inj, Int64.reduceToInt, Int32.toInt_toInt64, lg_cmp_ge, lg_cmp_le, lg_cmp_gt, lg_cmp_lt, lg_cmp_eq, Bool.false_eq_true, Bool.true_eq_false, reduceCtorEq, false_iff, true_iff, iff_true, iff_false, and_true, true_and, and_false, false_and, reduceIte, ite_true, ite_false, eq_self] at *)) <;> omega) (by ((try simp only [vp_in_iff, Int32.lt_iff_toInt_lt, Int32.le_iff_toInt_le, ← Int32.toInt_inj, Int32.reduceToInt, n_1, n_2, n_8, Int32.toNatClampNeg, Int64.lt_iff_toInt_lt, Int64.le_iff_toInt_le, ← Int64.toInt_inj, Int64.reduceToInt, Int32.toInt_toInt64, lg_cmp_ge, lg_cmp_le, lg_cmp_gt, lg_cmp_lt, lg_cmp_eq, Bool.false_eq_true, Bool.true_eq_false, reduceCtorEq, false_iff, true_iff, iff_true, iff_false, and_true, true_and, and_false, false_and, reduceIte, ite_true, ite_false, eq_self] at *)) <;> omega) (eqr_not (by assumption) (by assumption) (by ((try simp only [vp_in_iff, Int32.lt_iff_toInt_lt, Int32.le_iff_toInt_le, ← Int32.toInt_inj, Int32.reduceToInt, n_1, n_2, n_8, Int32.toNatClampNeg, Int64.lt_iff_toInt_lt, Int64.le_iff_toInt_le, ← Int64.toInt_inj, Int64.reduceToInt, Int32.toInt_toInt64, lg_cmp_ge, lg_cmp_le, lg_cmp_gt, lg_cmp_lt, lg_cmp_eq, Bool.false_eq_true, Bool.true_eq_false, reduceCtorEq, false_iff, true_iff, iff_true, iff_false, and_true, true_and, and_false, false_and, reduceIte, ite_true, ite_false, eq_self] at *)) <;> omega)) | exact no_0 (by decide)), trivial⟩ rfl
                · replace h10 := bI_t (b := l3) (rfl) h10
                  refine wa_iload_n (i := 2) rfl rfl ?_
                  refine wa_ireturn rfl rfl ?_
                  exact ⟨_, rfl, rfl, (by first | exact Or.inr ⟨by ((try simp only [vp_in_iff, Int32.lt_iff_toInt_lt, Int32.le_iff_toInt_le, ← Int32.toInt_inj, Int32.reduceToInt, n_1, n_2, n_8, Int32.toNatClampNeg, Int64.lt_iff_toInt_lt, Int64.le_iff_toInt_le, ← Int64.toInt_inj, Int64.reduceToInt, Int32.toInt_toInt64, lg_cmp_ge, lg_cmp_le, lg_cmp_gt, lg_cmp_lt, lg_cmp_eq, Bool.false_eq_true, Bool.true_eq_false, reduceCtorEq, false_iff, true_iff, iff_true, iff_false, and_true, true_and, and_false, false_and, reduceIte, ite_true, ite_false, eq_self] at *)) <;> omega, by ((try simp only [vp_in_iff, Int32.lt_iff_toInt_lt, Int32.le_iff_toInt_le, ← Int32.toInt_inj, Int32.reduceToInt, n_1, n_2, n_8, Int32.toNatClampNeg, Int64.lt_iff_toInt_lt, Int64.le_iff_toInt_le, ← Int64.toInt_inj, Int64.reduceToInt, Int32.toInt_toInt64, lg_cmp_ge, lg_cmp_le, lg_cmp_gt, lg_cmp_lt, lg_cmp_eq, Bool.false_eq_true, Bool.true_eq_false, reduceCtorEq, false_iff, true_iff, iff_true, iff_false, and_true, true_and, and_false, false_and, reduceIte, ite_true, ite_false, eq_self] at *)) <;> omega, eqr_of (by assumption) (by assumption) (by ((try simp only [vp_in_iff, Int32.lt_iff_toInt_lt, Int32.le_iff_toInt_le, ← Int32.toInt_inj, Int32.reduceToInt, n_1, n_2, n_8, Int32.toNatClampNeg, Int64.lt_iff_toInt_lt, Int64.le_iff_toInt_le, ← Int64.toInt_inj, Int64.reduceToInt, Int32.toInt_toInt64, lg_cmp_ge, lg_cmp_le, lg_cmp_gt, lg_cmp_lt, lg_cmp_eq, Bool.false_eq_true, Bool.true_eq_false, reduceCtorEq, false_iff, true_iff, iff_true, iff_false, and_true, true_and, and_false, false_and, reduceIte, ite_true, ite_false, eq_self] at *)) <;> omega)⟩ | exact Or.inl ⟨by decide, no_end (by assumption) (by ((try simp only [vp_in_iff, Int32.lt_iff_toInt_lt, Int32.le_iff_toInt_le, ← Int32.toInt_inj, Int32.reduceToInt, n_1, n_2, n_8, Int32.toNatClampNeg, Int64.lt_iff_toInt_lt, Int64.le_iff_toInt_le, ← Int64.toInt_inj, Int64.reduceToInt, Int32.toInt_toInt64, lg_cmp_ge, lg_cmp_le, lg_cmp_gt, lg_cmp_lt, lg_cmp_eq, Bool.false_eq_true, Bool.true_eq_false, reduceCtorEq, false_iff, true_iff, iff_true, iff_false, and_true, true_and, and_false, false_and, reduceIte, ite_true, ite_false, eq_self] at *)) <;> omega)⟩), trivial⟩
              · have mh9 := nle_mx h9
                refine wa_iload_n (i := 3) rfl rfl ?_
                refine wa_if_eq o_X12_workAt_88 (by decide) (fun h12 => ?_) (fun h12 => ?_)
                · replace h12 := bI_f (b := l3) (rfl) h12
                  refine wa_iconst (v := 0) (by decide) ?_
                  refine wa_istore_nD (lv' := [(3, .int (bI false)), (0, .ref 84), (1, .int a0), (2, .int l2), (4, .int l4)]) (i := 3) rfl (by decide) rfl ?_
                  refine wa_iinc (v := (1)) (lv' := fun y13 => [(4, .int y13), (3, .int (bI false)), (0, .ref 84), (1, .int a0), (2, .int l2)]) (by decide) rfl (by decide) (fun _ => rfl) (fun y13 hy13 => ?_)
                  have ty13 := i_addT hy13.symm
                  clear hy13
                  refine wa_goto o_X12_workAt_49 (by decide) ?_
                  refine wa_pick [2, 3, 4, 1, 0] rfl ?_
                  exact ih7 _ (by ((try simp only [vp_in_iff, Int32.lt_iff_toInt_lt, Int32.le_iff_toInt_le, ← Int32.toInt_inj, Int32.reduceToInt, n_1, n_2, n_8, Int32.toNatClampNeg, Int64.lt_iff_toInt_lt, Int64.le_iff_toInt_le, ← Int64.toInt_inj, Int64.reduceToInt, Int32.toInt_toInt64, lg_cmp_ge, lg_cmp_le, lg_cmp_gt, lg_cmp_lt, lg_cmp_eq, Bool.false_eq_true, Bool.true_eq_false, reduceCtorEq, false_iff, true_iff, iff_true, iff_false, and_true, true_and, and_false, false_and, reduceIte, ite_true, ite_false, eq_self] at *)) <;> omega) _ _ ⟨(by ((try simp only [vp_in_iff, Int32.lt_iff_toInt_lt, Int32.le_iff_toInt_le, ← Int32.toInt_inj, Int32.reduceToInt, n_1, n_2, n_8, Int32.toNatClampNeg, Int64.lt_iff_toInt_lt, Int64.le_iff_toInt_le, ← Int64.toInt_inj, Int64.reduceToInt, Int32.toInt_toInt64, lg_cmp_ge, lg_cmp_le, lg_cmp_gt, lg_cmp_lt, lg_cmp_eq, Bool.false_eq_true, Bool.true_eq_false, reduceCtorEq, false_iff, true_iff, iff_true, iff_false, and_true, true_and, and_false, false_and, reduceIte, ite_true, ite_false, eq_self] at *)) <;> omega), (by ((try simp only [vp_in_iff, Int32.lt_iff_toInt_lt, Int32.le_iff_toInt_le, ← Int32.toInt_inj, Int32.reduceToInt, n_1, n_2, n_8, Int32.toNatClampNeg, Int64.lt_iff_toInt_lt, Int64.le_iff_toInt_le, ← Int64.toInt_inj, Int64.reduceToInt, Int32.toInt_toInt64, lg_cmp_ge, lg_cmp_le, lg_cmp_gt, lg_cmp_lt, lg_cmp_eq, Bool.false_eq_true, Bool.true_eq_false, reduceCtorEq, false_iff, true_iff, iff_true, iff_false, and_true, true_and, and_false, false_and, reduceIte, ite_true, ite_false, eq_self] at *)) <;> omega), (by first | exact bs_0t (by decide) (by grind) | exact bs_0f (by decide) (by grind) | exact bs_ff (by assumption) (by assumption) (by ((try simp only [vp_in_iff, Int32.lt_iff_toInt_lt, Int32.le_iff_toInt_le, ← Int32.toInt_inj, Int32.reduceToInt, n_1, n_2, n_8, Int32.toNatClampNeg, Int64.lt_iff_toInt_lt, Int64.le_iff_toInt_le, ← Int64.toInt_inj, Int64.reduceToInt, Int32.toInt_toInt64, lg_cmp_ge, lg_cmp_le, lg_cmp_gt, lg_cmp_lt, lg_cmp_eq, Bool.false_eq_true, Bool.true_eq_false, reduceCtorEq, false_iff, true_iff, iff_true, iff_false, and_true, true_and, and_false, false_and, reduceIte, ite_true, ite_false, eq_self] at *)) <;> omega) | exact bs_tt (by assumption) (by assumption) (by ((try simp only [vp_in_iff, Int32.lt_iff_toInt_lt, Int32.le_iff_toInt_le, ← Int32.toInt_inj, Int32.reduceToInt, n_1, n_2, n_8, Int32.toNatClampNeg, Int64.lt_iff_toInt_lt, Int64.le_iff_toInt_le, ← Int64.toInt_inj, Int64.reduceToInt, Int32.toInt_toInt64, lg_cmp_ge, lg_cmp_le, lg_cmp_gt, lg_cmp_lt, lg_cmp_eq, Bool.false_eq_true, Bool.true_eq_false, reduceCtorEq, false_iff, true_iff, iff_true, iff_false, and_true, true_and, and_false, false_and, reduceIte, ite_true, ite_false, eq_self] at *)) <;> omega) (by ((try simp only [vp_in_iff, Int32.lt_iff_toInt_lt, Int32.le_iff_toInt_le, ← Int32.toInt_inj, Int32.reduceToInt, n_1, n_2, n_8, Int32.toNatClampNeg, Int64.lt_iff_toInt_lt, Int64.le_iff_toInt_le, ← Int64.toInt_inj, Int64.reduceToInt, Int32.toInt_toInt64, lg_cmp_ge, lg_cmp_le, lg_cmp_gt, lg_cmp_lt, lg_cmp_eq, Bool.false_eq_true, Bool.true_eq_false, reduceCtorEq, false_iff, true_iff, iff_true, iff_false, and_true, true_and, and_false, false_and, reduceIte, ite_true, ite_false, eq_self] at *)) <;> omega) (by grind) | exact bs_tf (by ((try simp only [vp_in_iff, Int32.lt_iff_toInt_lt, Int32.le_iff_toInt_le, ← Int32.toInt_inj, Int32.reduceToInt, n_1, n_2, n_8, Int32.toNatClampNeg, Int64.lt_iff_toInt_lt, Int64.le_iff_toInt_le, ← Int64.toInt_inj, Int64.reduceToInt, Int32.toInt_toInt64, lg_cmp_ge, lg_cmp_le, lg_cmp_gt, lg_cmp_lt, lg_cmp_eq, Bool.false_eq_true, Bool.true_eq_false, reduceCtorEq, false_iff, true_iff, iff_true, iff_false, and_true, true_and, and_false, false_and, reduceIte, ite_true, ite_false, eq_self] at *)) <;> omega) (by ((try simp only [vp_in_iff, Int32.lt_iff_toInt_lt, Int32.le_iff_toInt_le, ← Int32.toInt_inj, Int32.reduceToInt, n_1, n_2, n_8, Int32.toNatClampNeg, Int64.lt_iff_toInt_lt, Int64.le_iff_toInt_le, ← Int64.toInt_inj, Int64.reduceToInt, Int32.toInt_toInt64, lg_cmp_ge, lg_cmp_le, lg_cmp_gt, lg_cmp_lt, lg_cmp_eq, Bool.false_eq_true, Bool.true_eq_false, reduceCtorEq, false_iff, true_iff, iff_true, iff_false, and_true, true_and, and_false, false_and, reduceIte, ite_true, ite_false, eq_self] at *)) <;> omega) (by grind)), trivial⟩ rfl
                · replace h12 := bI_t (b := l3) (rfl) h12
                  refine wa_aload_n (i := 0) rfl rfl ?_
                  refine wa_getr ck_12 fl_12_292 ly_84 rf_84_116 ?_
                  refine wa_iconst (v := 4) (by decide) ?_
                  refine wa_iload_n (i := 2) rfl rfl ?_
                  refine wa_imul ?_
                  refine wa_top (fun v14 hv14 => ?_)
                  have tv14 := i_mulT hv14
                  clear hv14
                  refine wa_iload rfl ?_
                  refine wa_iadd ?_
                  refine wa_top (fun v15 hv15 => ?_)
                  have tv15 := i_addT hv15
                  clear hv15
                  refine wa_iald ly_137 (by ((try simp only [vp_in_iff, Int32.lt_iff_toInt_lt, Int32.le_iff_toInt_le, ← Int32.toInt_inj, Int32.reduceToInt, n_1, n_2, n_8, Int32.toNatClampNeg, Int64.lt_iff_toInt_lt, Int64.le_iff_toInt_le, ← Int64.toInt_inj, Int64.reduceToInt, Int32.toInt_toInt64, lg_cmp_ge, lg_cmp_le, lg_cmp_gt, lg_cmp_lt, lg_cmp_eq, Bool.false_eq_true, Bool.true_eq_false, reduceCtorEq, false_iff, true_iff, iff_true, iff_false, and_true, true_and, and_false, false_and, reduceIte, ite_true, ite_false, eq_self] at *)) <;> omega) ?_
                  refine wa_top (fun v16 hv16 => ?_)
                  have rv16 : -20 ≤ v16.toInt ∧ v16.toInt ≤ 20 := by rw [← hv16]; exact ar_at A_137 _
                  have qv16 : gi σ 137 (4 * (l2).toNatClampNeg + (l4).toNatClampNeg) = v16 := by rw [show 4 * (l2).toNatClampNeg + (l4).toNatClampNeg = (v15).toNatClampNeg from by ((try simp only [vp_in_iff, Int32.lt_iff_toInt_lt, Int32.le_iff_toInt_le, ← Int32.toInt_inj, Int32.reduceToInt, n_1, n_2, n_8, Int32.toNatClampNeg, Int64.lt_iff_toInt_lt, Int64.le_iff_toInt_le, ← Int64.toInt_inj, Int64.reduceToInt, Int32.toInt_toInt64, lg_cmp_ge, lg_cmp_le, lg_cmp_gt, lg_cmp_lt, lg_cmp_eq, Bool.false_eq_true, Bool.true_eq_false, reduceCtorEq, false_iff, true_iff, iff_true, iff_false, and_true, true_and, and_false, false_and, reduceIte, ite_true, ite_false, eq_self] at *)) <;> omega]; exact hv16
                  clear hv16
                  refine wa_aload_n (i := 0) rfl rfl ?_
                  refine wa_getr ck_12 fl_12_226 ly_84 rf_84_86 ?_
                  refine wa_iconst (v := 4) (by decide) ?_
                  refine wa_iload_n (i := 1) rfl rfl ?_
                  refine wa_imul ?_
                  refine wa_top (fun v17 hv17 => ?_)
                  have tv17 := i_mulT hv17
                  clear hv17
                  refine wa_iload rfl ?_
                  refine wa_iadd ?_
                  refine wa_top (fun v18 hv18 => ?_)
                  have tv18 := i_addT hv18
                  clear hv18
                  refine wa_iald ly_159 (by ((try simp only [vp_in_iff, Int32.lt_iff_toInt_lt, Int32.le_iff_toInt_le, ← Int32.toInt_inj, Int32.reduceToInt, n_1, n_2, n_8, Int32.toNatClampNeg, Int64.lt_iff_toInt_lt, Int64.le_iff_toInt_le, ← Int64.toInt_inj, Int64.reduceToInt, Int32.toInt_toInt64, lg_cmp_ge, lg_cmp_le, lg_cmp_gt, lg_cmp_lt, lg_cmp_eq, Bool.false_eq_true, Bool.true_eq_false, reduceCtorEq, false_iff, true_iff, iff_true, iff_false, and_true, true_and, and_false, false_and, reduceIte, ite_true, ite_false, eq_self] at *)) <;> omega) ?_
                  refine wa_top (fun v19 hv19 => ?_)
                  have rv19 : -20 ≤ v19.toInt ∧ v19.toInt ≤ 20 := by rw [← hv19]; exact ar_at A_159 _
                  have qv19 : gi σ 159 (4 * (a0).toNatClampNeg + (l4).toNatClampNeg) = v19 := by rw [show 4 * (a0).toNatClampNeg + (l4).toNatClampNeg = (v18).toNatClampNeg from by ((try simp only [vp_in_iff, Int32.lt_iff_toInt_lt, Int32.le_iff_toInt_le, ← Int32.toInt_inj, Int32.reduceToInt, n_1, n_2, n_8, Int32.toNatClampNeg, Int64.lt_iff_toInt_lt, Int64.le_iff_toInt_le, ← Int64.toInt_inj, Int64.reduceToInt, Int32.toInt_toInt64, lg_cmp_ge, lg_cmp_le, lg_cmp_gt, lg_cmp_lt, lg_cmp_eq, Bool.false_eq_true, Bool.true_eq_false, reduceCtorEq, false_iff, true_iff, iff_true, iff_false, and_true, true_and, and_false, false_and, reduceIte, ite_true, ite_false, eq_self] at *)) <;> omega]; exact hv19
                  clear hv19
                  refine wa_icmp_ne o_X12_workAt_88 (by decide) (fun h20 => ?_) (fun h20 => ?_)
                  · refine wa_iconst (v := 0) (by decide) ?_
                    refine wa_istore_nD (lv' := [(3, .int (bI false)), (0, .ref 84), (1, .int a0), (2, .int l2), (4, .int l4)]) (i := 3) rfl (by decide) rfl ?_
                    refine wa_iinc (v := (1)) (lv' := fun y21 => [(4, .int y21), (3, .int (bI false)), (0, .ref 84), (1, .int a0), (2, .int l2)]) (by decide) rfl (by decide) (fun _ => rfl) (fun y21 hy21 => ?_)
                    have ty21 := i_addT hy21.symm
                    clear hy21
                    refine wa_goto o_X12_workAt_49 (by decide) ?_
                    refine wa_pick [2, 3, 4, 1, 0] rfl ?_
                    exact ih7 _ (by ((try simp only [vp_in_iff, Int32.lt_iff_toInt_lt, Int32.le_iff_toInt_le, ← Int32.toInt_inj, Int32.reduceToInt, n_1, n_2, n_8, Int32.toNatClampNeg, Int64.lt_iff_toInt_lt, Int64.le_iff_toInt_le, ← Int64.toInt_inj, Int64.reduceToInt, Int32.toInt_toInt64, lg_cmp_ge, lg_cmp_le, lg_cmp_gt, lg_cmp_lt, lg_cmp_eq, Bool.false_eq_true, Bool.true_eq_false, reduceCtorEq, false_iff, true_iff, iff_true, iff_false, and_true, true_and, and_false, false_and, reduceIte, ite_true, ite_false, eq_self] at *)) <;> omega) _ _ ⟨(by ((try simp only [vp_in_iff, Int32.lt_iff_toInt_lt, Int32.le_iff_toInt_le, ← Int32.toInt_inj, Int32.reduceToInt, n_1, n_2, n_8, Int32.toNatClampNeg, Int64.lt_iff_toInt_lt, Int64.le_iff_toInt_le, ← Int64.toInt_inj, Int64.reduceToInt, Int32.toInt_toInt64, lg_cmp_ge, lg_cmp_le, lg_cmp_gt, lg_cmp_lt, lg_cmp_eq, Bool.false_eq_true, Bool.true_eq_false, reduceCtorEq, false_iff, true_iff, iff_true, iff_false, and_true, true_and, and_false, false_and, reduceIte, ite_true, ite_false, eq_self] at *)) <;> omega), (by ((try simp only [vp_in_iff, Int32.lt_iff_toInt_lt, Int32.le_iff_toInt_le, ← Int32.toInt_inj, Int32.reduceToInt, n_1, n_2, n_8, Int32.toNatClampNeg, Int64.lt_iff_toInt_lt, Int64.le_iff_toInt_le, ← Int64.toInt_inj, Int64.reduceToInt, Int32.toInt_toInt64, lg_cmp_ge, lg_cmp_le, lg_cmp_gt, lg_cmp_lt, lg_cmp_eq, Bool.false_eq_true, Bool.true_eq_false, reduceCtorEq, false_iff, true_iff, iff_true, iff_false, and_true, true_and, and_false, false_and, reduceIte, ite_true, ite_false, eq_self] at *)) <;> omega), (by first | exact bs_0t (by decide) (by grind) | exact bs_0f (by decide) (by grind) | exact bs_ff (by assumption) (by assumption) (by ((try simp only [vp_in_iff, Int32.lt_iff_toInt_lt, Int32.le_iff_toInt_le, ← Int32.toInt_inj, Int32.reduceToInt, n_1, n_2, n_8, Int32.toNatClampNeg, Int64.lt_iff_toInt_lt, Int64.le_iff_toInt_le, ← Int64.toInt_inj, Int64.reduceToInt, Int32.toInt_toInt64, lg_cmp_ge, lg_cmp_le, lg_cmp_gt, lg_cmp_lt, lg_cmp_eq, Bool.false_eq_true, Bool.true_eq_false, reduceCtorEq, false_iff, true_iff, iff_true, iff_false, and_true, true_and, and_false, false_and, reduceIte, ite_true, ite_false, eq_self] at *)) <;> omega) | exact bs_tt (by assumption) (by assumption) (by ((try simp only [vp_in_iff, Int32.lt_iff_toInt_lt, Int32.le_iff_toInt_le, ← Int32.toInt_inj, Int32.reduceToInt, n_1, n_2, n_8, Int32.toNatClampNeg, Int64.lt_iff_toInt_lt, Int64.le_iff_toInt_le, ← Int64.toInt_inj, Int64.reduceToInt, Int32.toInt_toInt64, lg_cmp_ge, lg_cmp_le, lg_cmp_gt, lg_cmp_lt, lg_cmp_eq, Bool.false_eq_true, Bool.true_eq_false, reduceCtorEq, false_iff, true_iff, iff_true, iff_false, and_true, true_and, and_false, false_and, reduceIte, ite_true, ite_false, eq_self] at *)) <;> omega) (by ((try simp only [vp_in_iff, Int32.lt_iff_toInt_lt, Int32.le_iff_toInt_le, ← Int32.toInt_inj, Int32.reduceToInt, n_1, n_2, n_8, Int32.toNatClampNeg, Int64.lt_iff_toInt_lt, Int64.le_iff_toInt_le, ← Int64.toInt_inj, Int64.reduceToInt, Int32.toInt_toInt64, lg_cmp_ge, lg_cmp_le, lg_cmp_gt, lg_cmp_lt, lg_cmp_eq, Bool.false_eq_true, Bool.true_eq_false, reduceCtorEq, false_iff, true_iff, iff_true, iff_false, and_true, true_and, and_false, false_and, reduceIte, ite_true, ite_false, eq_self] at *)) <;> omega) (by grind) | exact bs_tf (by ((try simp only [vp_in_iff, Int32.lt_iff_toInt_lt, Int32.le_iff_toInt_le, ← Int32.toInt_inj, Int32.reduceToInt, n_1, n_2, n_8, Int32.toNatClampNeg, Int64.lt_iff_toInt_lt, Int64.le_iff_toInt_le, ← Int64.toInt_inj, Int64.reduceToInt, Int32.toInt_toInt64, lg_cmp_ge, lg_cmp_le, lg_cmp_gt, lg_cmp_lt, lg_cmp_eq, Bool.false_eq_true, Bool.true_eq_false, reduceCtorEq, false_iff, true_iff, iff_true, iff_false, and_true, true_and, and_false, false_and, reduceIte, ite_true, ite_false, eq_self] at *)) <;> omega) (by ((try simp only [vp_in_iff, Int32.lt_iff_toInt_lt, Int32.le_iff_toInt_le, ← Int32.toInt_inj, Int32.reduceToInt, n_1, n_2, n_8, Int32.toNatClampNeg, Int64.lt_iff_toInt_lt, Int64.le_iff_toInt_le, ← Int64.toInt_inj, Int64.reduceToInt, Int32.toInt_toInt64, lg_cmp_ge, lg_cmp_le, lg_cmp_gt, lg_cmp_lt, lg_cmp_eq, Bool.false_eq_true, Bool.true_eq_false, reduceCtorEq, false_iff, true_iff, iff_true, iff_false, and_true, true_and, and_false, false_and, reduceIte, ite_true, ite_false, eq_self] at *)) <;> omega) (by grind)), trivial⟩ rfl
                  · refine wa_iconst (v := 1) (by decide) ?_
                    refine wa_goto o_X12_workAt_89 (by decide) ?_
                    refine wa_istore_nD (lv' := [(3, .int (bI true)), (0, .ref 84), (1, .int a0), (2, .int l2), (4, .int l4)]) (i := 3) rfl (by decide) rfl ?_
                    refine wa_iinc (v := (1)) (lv' := fun y22 => [(4, .int y22), (3, .int (bI true)), (0, .ref 84), (1, .int a0), (2, .int l2)]) (by decide) rfl (by decide) (fun _ => rfl) (fun y22 hy22 => ?_)
                    have ty22 := i_addT hy22.symm
                    clear hy22
                    refine wa_goto o_X12_workAt_49 (by decide) ?_
                    refine wa_pick [2, 3, 4, 1, 0] rfl ?_
                    exact ih7 _ (by ((try simp only [vp_in_iff, Int32.lt_iff_toInt_lt, Int32.le_iff_toInt_le, ← Int32.toInt_inj, Int32.reduceToInt, n_1, n_2, n_8, Int32.toNatClampNeg, Int64.lt_iff_toInt_lt, Int64.le_iff_toInt_le, ← Int64.toInt_inj, Int64.reduceToInt, Int32.toInt_toInt64, lg_cmp_ge, lg_cmp_le, lg_cmp_gt, lg_cmp_lt, lg_cmp_eq, Bool.false_eq_true, Bool.true_eq_false, reduceCtorEq, false_iff, true_iff, iff_true, iff_false, and_true, true_and, and_false, false_and, reduceIte, ite_true, ite_false, eq_self] at *)) <;> omega) _ _ ⟨(by ((try simp only [vp_in_iff, Int32.lt_iff_toInt_lt, Int32.le_iff_toInt_le, ← Int32.toInt_inj, Int32.reduceToInt, n_1, n_2, n_8, Int32.toNatClampNeg, Int64.lt_iff_toInt_lt, Int64.le_iff_toInt_le, ← Int64.toInt_inj, Int64.reduceToInt, Int32.toInt_toInt64, lg_cmp_ge, lg_cmp_le, lg_cmp_gt, lg_cmp_lt, lg_cmp_eq, Bool.false_eq_true, Bool.true_eq_false, reduceCtorEq, false_iff, true_iff, iff_true, iff_false, and_true, true_and, and_false, false_and, reduceIte, ite_true, ite_false, eq_self] at *)) <;> omega), (by ((try simp only [vp_in_iff, Int32.lt_iff_toInt_lt, Int32.le_iff_toInt_le, ← Int32.toInt_inj, Int32.reduceToInt, n_1, n_2, n_8, Int32.toNatClampNeg, Int64.lt_iff_toInt_lt, Int64.le_iff_toInt_le, ← Int64.toInt_inj, Int64.reduceToInt, Int32.toInt_toInt64, lg_cmp_ge, lg_cmp_le, lg_cmp_gt, lg_cmp_lt, lg_cmp_eq, Bool.false_eq_true, Bool.true_eq_false, reduceCtorEq, false_iff, true_iff, iff_true, iff_false, and_true, true_and, and_false, false_and, reduceIte, ite_true, ite_false, eq_self] at *)) <;> omega), (by first | exact bs_0t (by decide) (by grind) | exact bs_0f (by decide) (by grind) | exact bs_ff (by assumption) (by assumption) (by ((try simp only [vp_in_iff, Int32.lt_iff_toInt_lt, Int32.le_iff_toInt_le, ← Int32.toInt_inj, Int32.reduceToInt, n_1, n_2, n_8, Int32.toNatClampNeg, Int64.lt_iff_toInt_lt, Int64.le_iff_toInt_le, ← Int64.toInt_inj, Int64.reduceToInt, Int32.toInt_toInt64, lg_cmp_ge, lg_cmp_le, lg_cmp_gt, lg_cmp_lt, lg_cmp_eq, Bool.false_eq_true, Bool.true_eq_false, reduceCtorEq, false_iff, true_iff, iff_true, iff_false, and_true, true_and, and_false, false_and, reduceIte, ite_true, ite_false, eq_self] at *)) <;> omega) | exact bs_tt (by assumption) (by assumption) (by ((try simp only [vp_in_iff, Int32.lt_iff_toInt_lt, Int32.le_iff_toInt_le, ← Int32.toInt_inj, Int32.reduceToInt, n_1, n_2, n_8, Int32.toNatClampNeg, Int64.lt_iff_toInt_lt, Int64.le_iff_toInt_le, ← Int64.toInt_inj, Int64.reduceToInt, Int32.toInt_toInt64, lg_cmp_ge, lg_cmp_le, lg_cmp_gt, lg_cmp_lt, lg_cmp_eq, Bool.false_eq_true, Bool.true_eq_false, reduceCtorEq, false_iff, true_iff, iff_true, iff_false, and_true, true_and, and_false, false_and, reduceIte, ite_true, ite_false, eq_self] at *)) <;> omega) (by ((try simp only [vp_in_iff, Int32.lt_iff_toInt_lt, Int32.le_iff_toInt_le, ← Int32.toInt_inj, Int32.reduceToInt, n_1, n_2, n_8, Int32.toNatClampNeg, Int64.lt_iff_toInt_lt, Int64.le_iff_toInt_le, ← Int64.toInt_inj, Int64.reduceToInt, Int32.toInt_toInt64, lg_cmp_ge, lg_cmp_le, lg_cmp_gt, lg_cmp_lt, lg_cmp_eq, Bool.false_eq_true, Bool.true_eq_false, reduceCtorEq, false_iff, true_iff, iff_true, iff_false, and_true, true_and, and_false, false_and, reduceIte, ite_true, ite_false, eq_self] at *)) <;> omega) (by grind) | exact bs_tf (by ((try simp only [vp_in_iff, Int32.lt_iff_toInt_lt, Int32.le_iff_toInt_le, ← Int32.toInt_inj, Int32.reduceToInt, n_1, n_2, n_8, Int32.toNatClampNeg, Int64.lt_iff_toInt_lt, Int64.le_iff_toInt_le, ← Int64.toInt_inj, Int64.reduceToInt, Int32.toInt_toInt64, lg_cmp_ge, lg_cmp_le, lg_cmp_gt, lg_cmp_lt, lg_cmp_eq, Bool.false_eq_true, Bool.true_eq_false, reduceCtorEq, false_iff, true_iff, iff_true, iff_false, and_true, true_and, and_false, false_and, reduceIte, ite_true, ite_false, eq_self] at *)) <;> omega) (by ((try simp only [vp_in_iff, Int32.lt_iff_toInt_lt, Int32.le_iff_toInt_le, ← Int32.toInt_inj, Int32.reduceToInt, n_1, n_2, n_8, Int32.toNatClampNeg, Int64.lt_iff_toInt_lt, Int64.le_iff_toInt_le, ← Int64.toInt_inj, Int64.reduceToInt, Int32.toInt_toInt64, lg_cmp_ge, lg_cmp_le, lg_cmp_gt, lg_cmp_lt, lg_cmp_eq, Bool.false_eq_true, Bool.true_eq_false, reduceCtorEq, false_iff, true_iff, iff_true, iff_false, and_true, true_and, and_false, false_and, reduceIte, ite_true, ite_false, eq_self] at *)) <;> omega) (by grind)), trivial⟩ rfl
          exact hi8 _ _ _ ⟨(by ((try simp only [vp_in_iff, Int32.lt_iff_toInt_lt, Int32.le_iff_toInt_le, ← Int32.toInt_inj, Int32.reduceToInt, n_1, n_2, n_8, Int32.toNatClampNeg, Int64.lt_iff_toInt_lt, Int64.le_iff_toInt_le, ← Int64.toInt_inj, Int64.reduceToInt, Int32.toInt_toInt64, lg_cmp_ge, lg_cmp_le, lg_cmp_gt, lg_cmp_lt, lg_cmp_eq, Bool.false_eq_true, Bool.true_eq_false, reduceCtorEq, false_iff, true_iff, iff_true, iff_false, and_true, true_and, and_false, false_and, reduceIte, ite_true, ite_false, eq_self] at *)) <;> omega), (by ((try simp only [vp_in_iff, Int32.lt_iff_toInt_lt, Int32.le_iff_toInt_le, ← Int32.toInt_inj, Int32.reduceToInt, n_1, n_2, n_8, Int32.toNatClampNeg, Int64.lt_iff_toInt_lt, Int64.le_iff_toInt_le, ← Int64.toInt_inj, Int64.reduceToInt, Int32.toInt_toInt64, lg_cmp_ge, lg_cmp_le, lg_cmp_gt, lg_cmp_lt, lg_cmp_eq, Bool.false_eq_true, Bool.true_eq_false, reduceCtorEq, false_iff, true_iff, iff_true, iff_false, and_true, true_and, and_false, false_and, reduceIte, ite_true, ite_false, eq_self] at *)) <;> omega), (by first | exact bs_0t (by decide) (by grind) | exact bs_0f (by decide) (by grind) | exact bs_ff (by assumption) (by assumption) (by ((try simp only [vp_in_iff, Int32.lt_iff_toInt_lt, Int32.le_iff_toInt_le, ← Int32.toInt_inj, Int32.reduceToInt, n_1, n_2, n_8, Int32.toNatClampNeg, Int64.lt_iff_toInt_lt, Int64.le_iff_toInt_le, ← Int64.toInt_inj, Int64.reduceToInt, Int32.toInt_toInt64, lg_cmp_ge, lg_cmp_le, lg_cmp_gt, lg_cmp_lt, lg_cmp_eq, Bool.false_eq_true, Bool.true_eq_false, reduceCtorEq, false_iff, true_iff, iff_true, iff_false, and_true, true_and, and_false, false_and, reduceIte, ite_true, ite_false, eq_self] at *)) <;> omega) | exact bs_tt (by assumption) (by assumption) (by ((try simp only [vp_in_iff, Int32.lt_iff_toInt_lt, Int32.le_iff_toInt_le, ← Int32.toInt_inj, Int32.reduceToInt, n_1, n_2, n_8, Int32.toNatClampNeg, Int64.lt_iff_toInt_lt, Int64.le_iff_toInt_le, ← Int64.toInt_inj, Int64.reduceToInt, Int32.toInt_toInt64, lg_cmp_ge, lg_cmp_le, lg_cmp_gt, lg_cmp_lt, lg_cmp_eq, Bool.false_eq_true, Bool.true_eq_false, reduceCtorEq, false_iff, true_iff, iff_true, iff_false, and_true, true_and, and_false, false_and, reduceIte, ite_true, ite_false, eq_self] at *)) <;> omega) (by ((try simp only [vp_in_iff, Int32.lt_iff_toInt_lt, Int32.le_iff_toInt_le, ← Int32.toInt_inj, Int32.reduceToInt, n_1, n_2, n_8, Int32.toNatClampNeg, Int64.lt_iff_toInt_lt, Int64.le_iff_toInt_le, ← Int64.toInt_inj, Int64.reduceToInt, Int32.toInt_toInt64, lg_cmp_ge, lg_cmp_le, lg_cmp_gt, lg_cmp_lt, lg_cmp_eq, Bool.false_eq_true, Bool.true_eq_false, reduceCtorEq, false_iff, true_iff, iff_true, iff_false, and_true, true_and, and_false, false_and, reduceIte, ite_true, ite_false, eq_self] at *)) <;> omega) (by grind) | exact bs_tf (by ((try simp only [vp_in_iff, Int32.lt_iff_toInt_lt, Int32.le_iff_toInt_le, ← Int32.toInt_inj, Int32.reduceToInt, n_1, n_2, n_8, Int32.toNatClampNeg, Int64.lt_iff_toInt_lt, Int64.le_iff_toInt_le, ← Int64.toInt_inj, Int64.reduceToInt, Int32.toInt_toInt64, lg_cmp_ge, lg_cmp_le, lg_cmp_gt, lg_cmp_lt, lg_cmp_eq, Bool.false_eq_true, Bool.true_eq_false, reduceCtorEq, false_iff, true_iff, iff_true, iff_false, and_true, true_and, and_false, false_and, reduceIte, ite_true, ite_false, eq_self] at *)) <;> omega) (by ((try simp only [vp_in_iff, Int32.lt_iff_toInt_lt, Int32.le_iff_toInt_le, ← Int32.toInt_inj, Int32.reduceToInt, n_1, n_2, n_8, Int32.toNatClampNeg, Int64.lt_iff_toInt_lt, Int64.le_iff_toInt_le, ← Int64.toInt_inj, Int64.reduceToInt, Int32.toInt_toInt64, lg_cmp_ge, lg_cmp_le, lg_cmp_gt, lg_cmp_lt, lg_cmp_eq, Bool.false_eq_true, Bool.true_eq_false, reduceCtorEq, false_iff, true_iff, iff_true, iff_false, and_true, true_and, and_false, false_and, reduceIte, ite_true, ite_false, eq_self] at *)) <;> omega) (by grind)), trivial⟩ rfl
        · refine wa_aload_n (i := 0) rfl rfl ?_
          refine wa_getr ck_12 fl_12_295 ly_84 rf_84_117 ?_
          refine wa_iload_n (i := 2) rfl rfl ?_
          refine wa_iald ly_136 (by ((try simp only [vp_in_iff, Int32.lt_iff_toInt_lt, Int32.le_iff_toInt_le, ← Int32.toInt_inj, Int32.reduceToInt, n_1, n_2, n_8, Int32.toNatClampNeg, Int64.lt_iff_toInt_lt, Int64.le_iff_toInt_le, ← Int64.toInt_inj, Int64.reduceToInt, Int32.toInt_toInt64, lg_cmp_ge, lg_cmp_le, lg_cmp_gt, lg_cmp_lt, lg_cmp_eq, Bool.false_eq_true, Bool.true_eq_false, reduceCtorEq, false_iff, true_iff, iff_true, iff_false, and_true, true_and, and_false, false_and, reduceIte, ite_true, ite_false, eq_self] at *)) <;> omega) ?_
          refine wa_top (fun v23 hv23 => ?_)
          have rv23 : -99999 ≤ v23.toInt ∧ v23.toInt ≤ 99999 := by rw [← hv23]; exact ar_at A_136 _
          have qv23 := hv23
          clear hv23
          refine wa_aload_n (i := 0) rfl rfl ?_
          refine wa_getr ck_12 fl_12_229 ly_84 rf_84_87 ?_
          refine wa_iload_n (i := 1) rfl rfl ?_
          refine wa_iald ly_158 (by ((try simp only [vp_in_iff, Int32.lt_iff_toInt_lt, Int32.le_iff_toInt_le, ← Int32.toInt_inj, Int32.reduceToInt, n_1, n_2, n_8, Int32.toNatClampNeg, Int64.lt_iff_toInt_lt, Int64.le_iff_toInt_le, ← Int64.toInt_inj, Int64.reduceToInt, Int32.toInt_toInt64, lg_cmp_ge, lg_cmp_le, lg_cmp_gt, lg_cmp_lt, lg_cmp_eq, Bool.false_eq_true, Bool.true_eq_false, reduceCtorEq, false_iff, true_iff, iff_true, iff_false, and_true, true_and, and_false, false_and, reduceIte, ite_true, ite_false, eq_self] at *)) <;> omega) ?_
          refine wa_top (fun v24 hv24 => ?_)
          have rv24 : -99999 ≤ v24.toInt ∧ v24.toInt ≤ 99999 := by rw [← hv24]; exact ar_at A_158 _
          have qv24 := hv24
          clear hv24
          refine wa_icmp_ne o_X12_workAt_44 (by decide) (fun h25 => ?_) (fun h25 => ?_)
          · refine wa_iconst (v := 0) (by decide) ?_
            refine wa_istore_nD (lv' := [(3, .int (bI false)), (0, .ref 84), (1, .int a0), (2, .int l2)]) (i := 3) rfl (by decide) rfl ?_
            refine wa_iconst (v := 0) (by decide) ?_
            refine wa_istoreD (lv' := [(4, .int 0), (3, .int (bI false)), (0, .ref 84), (1, .int a0), (2, .int l2)]) (by decide) rfl ?_
            refine wa_pick [2, 3, 4, 1, 0] rfl ?_
            have hi27 : ∀ (n9_49 : Nat) (l3 : Bool) (l4 : Int32), ((0 ≤ l4.toInt) ∧ (0 ≤ l4.toInt ∧ l4.toInt ≤ 4) ∧ (l3 = true ↔ (gi σ 157 (a0).toNatClampNeg = gi σ 135 (l2).toNatClampNeg ∧ gi σ 158 (a0).toNatClampNeg = gi σ 136 (l2).toNatClampNeg) ∧ ∀ v : Nat, (v : Int) < l4.toInt → gi σ 159 (4 * (a0).toNatClampNeg + v) = gi σ 137 (4 * (l2).toNatClampNeg + v)) ∧ (True)) → (2147483647 - l4.toInt).toNat = n9_49 → WA G M_X12_workAt (ZM G M_X12_workAt d (fun r σ' => ∃ x : Int32, r = some (.int x) ∧ σ = σ' ∧ ((x.toInt = -1 ∧ ∀ k : Nat, (k : Int) < (gi σ 84 119).toInt → ¬ EQR σ (a0).toNatClampNeg k) ∨ (0 ≤ x.toInt ∧ x.toInt < (gi σ 84 119).toInt ∧ EQR σ (a0).toNatClampNeg (x).toNatClampNeg)) ∧ True)) B_X12_workAt_49 [(0, .ref 84), (1, .int a0), (2, .int l2), (3, .int (bI l3)), (4, .int l4)] [] σ := by
              intro n9_49
              induction n9_49 using Nat.strongRecOn with
              | _ n9_49 ih26 =>
                intro l3 l4  i9 m9_49
                obtain ⟨jhi27_0, jhi27_1, jhi27_2, -⟩ := i9
                have ul4 := Int32.toInt_lt l4
                have wl4 := Int32.le_toInt l4
                refine wa_iload rfl ?_
                refine wa_iconst (v := 4) (by decide) ?_
                refine wa_icmp_ge o_X12_workAt_96 (by decide) (fun h28 => ?_) (fun h28 => ?_)
                · refine wa_iload_n (i := 3) rfl rfl ?_
                  refine wa_if_eq o_X12_workAt_102 (by decide) (fun h29 => ?_) (fun h29 => ?_)
                  · replace h29 := bI_f (b := l3) (rfl) h29
                    refine wa_iinc (v := (1)) (lv' := fun y30 => [(2, .int y30), (0, .ref 84), (1, .int a0), (3, .int (bI l3)), (4, .int l4)]) (by decide) rfl (by decide) (fun _ => rfl) (fun y30 hy30 => ?_)
                    have ty30 := i_addT hy30.symm
                    clear hy30
                    refine wa_goto o_X12_workAt_2 (by decide) ?_
                    refine wa_pick [1, 2, 0] rfl ?_
                    exact ih1 _ (by ((try simp only [vp_in_iff, Int32.lt_iff_toInt_lt, Int32.le_iff_toInt_le, ← Int32.toInt_inj, Int32.reduceToInt, n_1, n_2, n_8, Int32.toNatClampNeg, Int64.lt_iff_toInt_lt, Int64.le_iff_toInt_le, ← Int64.toInt_inj, Int64.reduceToInt, Int32.toInt_toInt64, lg_cmp_ge, lg_cmp_le, lg_cmp_gt, lg_cmp_lt, lg_cmp_eq, Bool.false_eq_true, Bool.true_eq_false, reduceCtorEq, false_iff, true_iff, iff_true, iff_false, and_true, true_and, and_false, false_and, reduceIte, ite_true, ite_false, eq_self] at *)) <;> omega) _ ⟨(by ((try simp only [vp_in_iff, Int32.lt_iff_toInt_lt, Int32.le_iff_toInt_le, ← Int32.toInt_inj, Int32.reduceToInt, n_1, n_2, n_8, Int32.toNatClampNeg, Int64.lt_iff_toInt_lt, Int64.le_iff_toInt_le, ← Int64.toInt_inj, Int64.reduceToInt, Int32.toInt_toInt64, lg_cmp_ge, lg_cmp_le, lg_cmp_gt, lg_cmp_lt, lg_cmp_eq, Bool.false_eq_true, Bool.true_eq_false, reduceCtorEq, false_iff, true_iff, iff_true, iff_false, and_true, true_and, and_false, false_and, reduceIte, ite_true, ite_false, eq_self] at *)) <;> omega), (by first | exact no_step (by assumption) (by ((try simp only [vp_in_iff, Int32.lt_iff_toInt_lt, Int32.le_iff_toInt_le, ← Int32.toInt_inj, Int32.reduceToInt, n_1, n_2, n_8, Int32.toNatClampNeg, Int64.lt_iff_toInt_lt, Int64.le_iff_toInt_le, ← Int64.toInt_inj, Int64.reduceToInt, Int32.toInt_toInt64, lg_cmp_ge, lg_cmp_le, lg_cmp_gt, lg_cmp_lt, lg_cmp_eq, Bool.false_eq_true, Bool.true_eq_false, reduceCtorEq, false_iff, true_iff, iff_true, iff_false, and_true, true_and, and_false, false_and, reduceIte, ite_true, ite_false, eq_self] at *)) <;> omega) (by ((try simp only [vp_in_iff, Int32.lt_iff_toInt_lt, Int32.le_iff_toInt_le, ← Int32.toInt_inj, Int32.reduceToInt, n_1, n_2, n_8, Int32.toNatClampNeg, Int64.lt_iff_toInt_lt, Int64.le_iff_toInt_le, ← Int64.toInt_inj, Int64.reduceToInt, Int32.toInt_toInt64, lg_cmp_ge, lg_cmp_le, lg_cmp_gt, lg_cmp_lt, lg_cmp_eq, Bool.false_eq_true, Bool.true_eq_false, reduceCtorEq, false_iff, true_iff, iff_true, iff_false, and_true, true_and, and_false, false_and, reduceIte, ite_true, ite_false, eq_self] at *)) <;> omega) (eqr_not (by assumption) (by assumption) (by ((try simp only [vp_in_iff, Int32.lt_iff_toInt_lt, Int32.le_iff_toInt_le, ← Int32.toInt_inj, Int32.reduceToInt, n_1, n_2, n_8, Int32.toNatClampNeg, Int64.lt_iff_toInt_lt, Int64.le_iff_toInt_le, ← Int64.toInt_inj, Int64.reduceToInt, Int32.toInt_toInt64, lg_cmp_ge, lg_cmp_le, lg_cmp_gt, lg_cmp_lt, lg_cmp_eq, Bool.false_eq_true, Bool.true_eq_false, reduceCtorEq, false_iff, true_iff, iff_true, iff_false, and_true, true_and, and_false, false_and, reduceIte, ite_true, ite_false, eq_self] at *)) <;> omega)) | exact no_0 (by decide)), trivial⟩ rfl
                  · replace h29 := bI_t (b := l3) (rfl) h29
                    refine wa_iload_n (i := 2) rfl rfl ?_
                    refine wa_ireturn rfl rfl ?_
                    exact ⟨_, rfl, rfl, (by first | exact Or.inr ⟨by ((try simp only [vp_in_iff, Int32.lt_iff_toInt_lt, Int32.le_iff_toInt_le, ← Int32.toInt_inj, Int32.reduceToInt, n_1, n_2, n_8, Int32.toNatClampNeg, Int64.lt_iff_toInt_lt, Int64.le_iff_toInt_le, ← Int64.toInt_inj, Int64.reduceToInt, Int32.toInt_toInt64, lg_cmp_ge, lg_cmp_le, lg_cmp_gt, lg_cmp_lt, lg_cmp_eq, Bool.false_eq_true, Bool.true_eq_false, reduceCtorEq, false_iff, true_iff, iff_true, iff_false, and_true, true_and, and_false, false_and, reduceIte, ite_true, ite_false, eq_self] at *)) <;> omega, by ((try simp only [vp_in_iff, Int32.lt_iff_toInt_lt, Int32.le_iff_toInt_le, ← Int32.toInt_inj, Int32.reduceToInt, n_1, n_2, n_8, Int32.toNatClampNeg, Int64.lt_iff_toInt_lt, Int64.le_iff_toInt_le, ← Int64.toInt_inj, Int64.reduceToInt, Int32.toInt_toInt64, lg_cmp_ge, lg_cmp_le, lg_cmp_gt, lg_cmp_lt, lg_cmp_eq, Bool.false_eq_true, Bool.true_eq_false, reduceCtorEq, false_iff, true_iff, iff_true, iff_false, and_true, true_and, and_false, false_and, reduceIte, ite_true, ite_false, eq_self] at *)) <;> omega, eqr_of (by assumption) (by assumption) (by ((try simp only [vp_in_iff, Int32.lt_iff_toInt_lt, Int32.le_iff_toInt_le, ← Int32.toInt_inj, Int32.reduceToInt, n_1, n_2, n_8, Int32.toNatClampNeg, Int64.lt_iff_toInt_lt, Int64.le_iff_toInt_le, ← Int64.toInt_inj, Int64.reduceToInt, Int32.toInt_toInt64, lg_cmp_ge, lg_cmp_le, lg_cmp_gt, lg_cmp_lt, lg_cmp_eq, Bool.false_eq_true, Bool.true_eq_false, reduceCtorEq, false_iff, true_iff, iff_true, iff_false, and_true, true_and, and_false, false_and, reduceIte, ite_true, ite_false, eq_self] at *)) <;> omega)⟩ | exact Or.inl ⟨by decide, no_end (by assumption) (by ((try simp only [vp_in_iff, Int32.lt_iff_toInt_lt, Int32.le_iff_toInt_le, ← Int32.toInt_inj, Int32.reduceToInt, n_1, n_2, n_8, Int32.toNatClampNeg, Int64.lt_iff_toInt_lt, Int64.le_iff_toInt_le, ← Int64.toInt_inj, Int64.reduceToInt, Int32.toInt_toInt64, lg_cmp_ge, lg_cmp_le, lg_cmp_gt, lg_cmp_lt, lg_cmp_eq, Bool.false_eq_true, Bool.true_eq_false, reduceCtorEq, false_iff, true_iff, iff_true, iff_false, and_true, true_and, and_false, false_and, reduceIte, ite_true, ite_false, eq_self] at *)) <;> omega)⟩), trivial⟩
                · have mh28 := nle_mx h28
                  refine wa_iload_n (i := 3) rfl rfl ?_
                  refine wa_if_eq o_X12_workAt_88 (by decide) (fun h31 => ?_) (fun h31 => ?_)
                  · replace h31 := bI_f (b := l3) (rfl) h31
                    refine wa_iconst (v := 0) (by decide) ?_
                    refine wa_istore_nD (lv' := [(3, .int (bI false)), (0, .ref 84), (1, .int a0), (2, .int l2), (4, .int l4)]) (i := 3) rfl (by decide) rfl ?_
                    refine wa_iinc (v := (1)) (lv' := fun y32 => [(4, .int y32), (3, .int (bI false)), (0, .ref 84), (1, .int a0), (2, .int l2)]) (by decide) rfl (by decide) (fun _ => rfl) (fun y32 hy32 => ?_)
                    have ty32 := i_addT hy32.symm
                    clear hy32
                    refine wa_goto o_X12_workAt_49 (by decide) ?_
                    refine wa_pick [2, 3, 4, 1, 0] rfl ?_
                    exact ih26 _ (by ((try simp only [vp_in_iff, Int32.lt_iff_toInt_lt, Int32.le_iff_toInt_le, ← Int32.toInt_inj, Int32.reduceToInt, n_1, n_2, n_8, Int32.toNatClampNeg, Int64.lt_iff_toInt_lt, Int64.le_iff_toInt_le, ← Int64.toInt_inj, Int64.reduceToInt, Int32.toInt_toInt64, lg_cmp_ge, lg_cmp_le, lg_cmp_gt, lg_cmp_lt, lg_cmp_eq, Bool.false_eq_true, Bool.true_eq_false, reduceCtorEq, false_iff, true_iff, iff_true, iff_false, and_true, true_and, and_false, false_and, reduceIte, ite_true, ite_false, eq_self] at *)) <;> omega) _ _ ⟨(by ((try simp only [vp_in_iff, Int32.lt_iff_toInt_lt, Int32.le_iff_toInt_le, ← Int32.toInt_inj, Int32.reduceToInt, n_1, n_2, n_8, Int32.toNatClampNeg, Int64.lt_iff_toInt_lt, Int64.le_iff_toInt_le, ← Int64.toInt_inj, Int64.reduceToInt, Int32.toInt_toInt64, lg_cmp_ge, lg_cmp_le, lg_cmp_gt, lg_cmp_lt, lg_cmp_eq, Bool.false_eq_true, Bool.true_eq_false, reduceCtorEq, false_iff, true_iff, iff_true, iff_false, and_true, true_and, and_false, false_and, reduceIte, ite_true, ite_false, eq_self] at *)) <;> omega), (by ((try simp only [vp_in_iff, Int32.lt_iff_toInt_lt, Int32.le_iff_toInt_le, ← Int32.toInt_inj, Int32.reduceToInt, n_1, n_2, n_8, Int32.toNatClampNeg, Int64.lt_iff_toInt_lt, Int64.le_iff_toInt_le, ← Int64.toInt_inj, Int64.reduceToInt, Int32.toInt_toInt64, lg_cmp_ge, lg_cmp_le, lg_cmp_gt, lg_cmp_lt, lg_cmp_eq, Bool.false_eq_true, Bool.true_eq_false, reduceCtorEq, false_iff, true_iff, iff_true, iff_false, and_true, true_and, and_false, false_and, reduceIte, ite_true, ite_false, eq_self] at *)) <;> omega), (by first | exact bs_0t (by decide) (by grind) | exact bs_0f (by decide) (by grind) | exact bs_ff (by assumption) (by assumption) (by ((try simp only [vp_in_iff, Int32.lt_iff_toInt_lt, Int32.le_iff_toInt_le, ← Int32.toInt_inj, Int32.reduceToInt, n_1, n_2, n_8, Int32.toNatClampNeg, Int64.lt_iff_toInt_lt, Int64.le_iff_toInt_le, ← Int64.toInt_inj, Int64.reduceToInt, Int32.toInt_toInt64, lg_cmp_ge, lg_cmp_le, lg_cmp_gt, lg_cmp_lt, lg_cmp_eq, Bool.false_eq_true, Bool.true_eq_false, reduceCtorEq, false_iff, true_iff, iff_true, iff_false, and_true, true_and, and_false, false_and, reduceIte, ite_true, ite_false, eq_self] at *)) <;> omega) | exact bs_tt (by assumption) (by assumption) (by ((try simp only [vp_in_iff, Int32.lt_iff_toInt_lt, Int32.le_iff_toInt_le, ← Int32.toInt_inj, Int32.reduceToInt, n_1, n_2, n_8, Int32.toNatClampNeg, Int64.lt_iff_toInt_lt, Int64.le_iff_toInt_le, ← Int64.toInt_inj, Int64.reduceToInt, Int32.toInt_toInt64, lg_cmp_ge, lg_cmp_le, lg_cmp_gt, lg_cmp_lt, lg_cmp_eq, Bool.false_eq_true, Bool.true_eq_false, reduceCtorEq, false_iff, true_iff, iff_true, iff_false, and_true, true_and, and_false, false_and, reduceIte, ite_true, ite_false, eq_self] at *)) <;> omega) (by ((try simp only [vp_in_iff, Int32.lt_iff_toInt_lt, Int32.le_iff_toInt_le, ← Int32.toInt_inj, Int32.reduceToInt, n_1, n_2, n_8, Int32.toNatClampNeg, Int64.lt_iff_toInt_lt, Int64.le_iff_toInt_le, ← Int64.toInt_inj, Int64.reduceToInt, Int32.toInt_toInt64, lg_cmp_ge, lg_cmp_le, lg_cmp_gt, lg_cmp_lt, lg_cmp_eq, Bool.false_eq_true, Bool.true_eq_false, reduceCtorEq, false_iff, true_iff, iff_true, iff_false, and_true, true_and, and_false, false_and, reduceIte, ite_true, ite_false, eq_self] at *)) <;> omega) (by grind) | exact bs_tf (by ((try simp only [vp_in_iff, Int32.lt_iff_toInt_lt, Int32.le_iff_toInt_le, ← Int32.toInt_inj, Int32.reduceToInt, n_1, n_2, n_8, Int32.toNatClampNeg, Int64.lt_iff_toInt_lt, Int64.le_iff_toInt_le, ← Int64.toInt_inj, Int64.reduceToInt, Int32.toInt_toInt64, lg_cmp_ge, lg_cmp_le, lg_cmp_gt, lg_cmp_lt, lg_cmp_eq, Bool.false_eq_true, Bool.true_eq_false, reduceCtorEq, false_iff, true_iff, iff_true, iff_false, and_true, true_and, and_false, false_and, reduceIte, ite_true, ite_false, eq_self] at *)) <;> omega) (by ((try simp only [vp_in_iff, Int32.lt_iff_toInt_lt, Int32.le_iff_toInt_le, ← Int32.toInt_inj, Int32.reduceToInt, n_1, n_2, n_8, Int32.toNatClampNeg, Int64.lt_iff_toInt_lt, Int64.le_iff_toInt_le, ← Int64.toInt_inj, Int64.reduceToInt, Int32.toInt_toInt64, lg_cmp_ge, lg_cmp_le, lg_cmp_gt, lg_cmp_lt, lg_cmp_eq, Bool.false_eq_true, Bool.true_eq_false, reduceCtorEq, false_iff, true_iff, iff_true, iff_false, and_true, true_and, and_false, false_and, reduceIte, ite_true, ite_false, eq_self] at *)) <;> omega) (by grind)), trivial⟩ rfl
                  · replace h31 := bI_t (b := l3) (rfl) h31
                    refine wa_aload_n (i := 0) rfl rfl ?_
                    refine wa_getr ck_12 fl_12_292 ly_84 rf_84_116 ?_
                    refine wa_iconst (v := 4) (by decide) ?_
                    refine wa_iload_n (i := 2) rfl rfl ?_
                    refine wa_imul ?_
                    refine wa_top (fun v33 hv33 => ?_)
                    have tv33 := i_mulT hv33
                    clear hv33
                    refine wa_iload rfl ?_
                    refine wa_iadd ?_
                    refine wa_top (fun v34 hv34 => ?_)
                    have tv34 := i_addT hv34
                    clear hv34
                    refine wa_iald ly_137 (by ((try simp only [vp_in_iff, Int32.lt_iff_toInt_lt, Int32.le_iff_toInt_le, ← Int32.toInt_inj, Int32.reduceToInt, n_1, n_2, n_8, Int32.toNatClampNeg, Int64.lt_iff_toInt_lt, Int64.le_iff_toInt_le, ← Int64.toInt_inj, Int64.reduceToInt, Int32.toInt_toInt64, lg_cmp_ge, lg_cmp_le, lg_cmp_gt, lg_cmp_lt, lg_cmp_eq, Bool.false_eq_true, Bool.true_eq_false, reduceCtorEq, false_iff, true_iff, iff_true, iff_false, and_true, true_and, and_false, false_and, reduceIte, ite_true, ite_false, eq_self] at *)) <;> omega) ?_
                    refine wa_top (fun v35 hv35 => ?_)
                    have rv35 : -20 ≤ v35.toInt ∧ v35.toInt ≤ 20 := by rw [← hv35]; exact ar_at A_137 _
                    have qv35 : gi σ 137 (4 * (l2).toNatClampNeg + (l4).toNatClampNeg) = v35 := by rw [show 4 * (l2).toNatClampNeg + (l4).toNatClampNeg = (v34).toNatClampNeg from by ((try simp only [vp_in_iff, Int32.lt_iff_toInt_lt, Int32.le_iff_toInt_le, ← Int32.toInt_inj, Int32.reduceToInt, n_1, n_2, n_8, Int32.toNatClampNeg, Int64.lt_iff_toInt_lt, Int64.le_iff_toInt_le, ← Int64.toInt_inj, Int64.reduceToInt, Int32.toInt_toInt64, lg_cmp_ge, lg_cmp_le, lg_cmp_gt, lg_cmp_lt, lg_cmp_eq, Bool.false_eq_true, Bool.true_eq_false, reduceCtorEq, false_iff, true_iff, iff_true, iff_false, and_true, true_and, and_false, false_and, reduceIte, ite_true, ite_false, eq_self] at *)) <;> omega]; exact hv35
                    clear hv35
                    refine wa_aload_n (i := 0) rfl rfl ?_
                    refine wa_getr ck_12 fl_12_226 ly_84 rf_84_86 ?_
                    refine wa_iconst (v := 4) (by decide) ?_
                    refine wa_iload_n (i := 1) rfl rfl ?_
                    refine wa_imul ?_
                    refine wa_top (fun v36 hv36 => ?_)
                    have tv36 := i_mulT hv36
                    clear hv36
                    refine wa_iload rfl ?_
                    refine wa_iadd ?_
                    refine wa_top (fun v37 hv37 => ?_)
                    have tv37 := i_addT hv37
                    clear hv37
                    refine wa_iald ly_159 (by ((try simp only [vp_in_iff, Int32.lt_iff_toInt_lt, Int32.le_iff_toInt_le, ← Int32.toInt_inj, Int32.reduceToInt, n_1, n_2, n_8, Int32.toNatClampNeg, Int64.lt_iff_toInt_lt, Int64.le_iff_toInt_le, ← Int64.toInt_inj, Int64.reduceToInt, Int32.toInt_toInt64, lg_cmp_ge, lg_cmp_le, lg_cmp_gt, lg_cmp_lt, lg_cmp_eq, Bool.false_eq_true, Bool.true_eq_false, reduceCtorEq, false_iff, true_iff, iff_true, iff_false, and_true, true_and, and_false, false_and, reduceIte, ite_true, ite_false, eq_self] at *)) <;> omega) ?_
                    refine wa_top (fun v38 hv38 => ?_)
                    have rv38 : -20 ≤ v38.toInt ∧ v38.toInt ≤ 20 := by rw [← hv38]; exact ar_at A_159 _
                    have qv38 : gi σ 159 (4 * (a0).toNatClampNeg + (l4).toNatClampNeg) = v38 := by rw [show 4 * (a0).toNatClampNeg + (l4).toNatClampNeg = (v37).toNatClampNeg from by ((try simp only [vp_in_iff, Int32.lt_iff_toInt_lt, Int32.le_iff_toInt_le, ← Int32.toInt_inj, Int32.reduceToInt, n_1, n_2, n_8, Int32.toNatClampNeg, Int64.lt_iff_toInt_lt, Int64.le_iff_toInt_le, ← Int64.toInt_inj, Int64.reduceToInt, Int32.toInt_toInt64, lg_cmp_ge, lg_cmp_le, lg_cmp_gt, lg_cmp_lt, lg_cmp_eq, Bool.false_eq_true, Bool.true_eq_false, reduceCtorEq, false_iff, true_iff, iff_true, iff_false, and_true, true_and, and_false, false_and, reduceIte, ite_true, ite_false, eq_self] at *)) <;> omega]; exact hv38
                    clear hv38
                    refine wa_icmp_ne o_X12_workAt_88 (by decide) (fun h39 => ?_) (fun h39 => ?_)
                    · refine wa_iconst (v := 0) (by decide) ?_
                      refine wa_istore_nD (lv' := [(3, .int (bI false)), (0, .ref 84), (1, .int a0), (2, .int l2), (4, .int l4)]) (i := 3) rfl (by decide) rfl ?_
                      refine wa_iinc (v := (1)) (lv' := fun y40 => [(4, .int y40), (3, .int (bI false)), (0, .ref 84), (1, .int a0), (2, .int l2)]) (by decide) rfl (by decide) (fun _ => rfl) (fun y40 hy40 => ?_)
                      have ty40 := i_addT hy40.symm
                      clear hy40
                      refine wa_goto o_X12_workAt_49 (by decide) ?_
                      refine wa_pick [2, 3, 4, 1, 0] rfl ?_
                      exact ih26 _ (by ((try simp only [vp_in_iff, Int32.lt_iff_toInt_lt, Int32.le_iff_toInt_le, ← Int32.toInt_inj, Int32.reduceToInt, n_1, n_2, n_8, Int32.toNatClampNeg, Int64.lt_iff_toInt_lt, Int64.le_iff_toInt_le, ← Int64.toInt_inj, Int64.reduceToInt, Int32.toInt_toInt64, lg_cmp_ge, lg_cmp_le, lg_cmp_gt, lg_cmp_lt, lg_cmp_eq, Bool.false_eq_true, Bool.true_eq_false, reduceCtorEq, false_iff, true_iff, iff_true, iff_false, and_true, true_and, and_false, false_and, reduceIte, ite_true, ite_false, eq_self] at *)) <;> omega) _ _ ⟨(by ((try simp only [vp_in_iff, Int32.lt_iff_toInt_lt, Int32.le_iff_toInt_le, ← Int32.toInt_inj, Int32.reduceToInt, n_1, n_2, n_8, Int32.toNatClampNeg, Int64.lt_iff_toInt_lt, Int64.le_iff_toInt_le, ← Int64.toInt_inj, Int64.reduceToInt, Int32.toInt_toInt64, lg_cmp_ge, lg_cmp_le, lg_cmp_gt, lg_cmp_lt, lg_cmp_eq, Bool.false_eq_true, Bool.true_eq_false, reduceCtorEq, false_iff, true_iff, iff_true, iff_false, and_true, true_and, and_false, false_and, reduceIte, ite_true, ite_false, eq_self] at *)) <;> omega), (by ((try simp only [vp_in_iff, Int32.lt_iff_toInt_lt, Int32.le_iff_toInt_le, ← Int32.toInt_inj, Int32.reduceToInt, n_1, n_2, n_8, Int32.toNatClampNeg, Int64.lt_iff_toInt_lt, Int64.le_iff_toInt_le, ← Int64.toInt_inj, Int64.reduceToInt, Int32.toInt_toInt64, lg_cmp_ge, lg_cmp_le, lg_cmp_gt, lg_cmp_lt, lg_cmp_eq, Bool.false_eq_true, Bool.true_eq_false, reduceCtorEq, false_iff, true_iff, iff_true, iff_false, and_true, true_and, and_false, false_and, reduceIte, ite_true, ite_false, eq_self] at *)) <;> omega), (by first | exact bs_0t (by decide) (by grind) | exact bs_0f (by decide) (by grind) | exact bs_ff (by assumption) (by assumption) (by ((try simp only [vp_in_iff, Int32.lt_iff_toInt_lt, Int32.le_iff_toInt_le, ← Int32.toInt_inj, Int32.reduceToInt, n_1, n_2, n_8, Int32.toNatClampNeg, Int64.lt_iff_toInt_lt, Int64.le_iff_toInt_le, ← Int64.toInt_inj, Int64.reduceToInt, Int32.toInt_toInt64, lg_cmp_ge, lg_cmp_le, lg_cmp_gt, lg_cmp_lt, lg_cmp_eq, Bool.false_eq_true, Bool.true_eq_false, reduceCtorEq, false_iff, true_iff, iff_true, iff_false, and_true, true_and, and_false, false_and, reduceIte, ite_true, ite_false, eq_self] at *)) <;> omega) | exact bs_tt (by assumption) (by assumption) (by ((try simp only [vp_in_iff, Int32.lt_iff_toInt_lt, Int32.le_iff_toInt_le, ← Int32.toInt_inj, Int32.reduceToInt, n_1, n_2, n_8, Int32.toNatClampNeg, Int64.lt_iff_toInt_lt, Int64.le_iff_toInt_le, ← Int64.toInt_inj, Int64.reduceToInt, Int32.toInt_toInt64, lg_cmp_ge, lg_cmp_le, lg_cmp_gt, lg_cmp_lt, lg_cmp_eq, Bool.false_eq_true, Bool.true_eq_false, reduceCtorEq, false_iff, true_iff, iff_true, iff_false, and_true, true_and, and_false, false_and, reduceIte, ite_true, ite_false, eq_self] at *)) <;> omega) (by ((try simp only [vp_in_iff, Int32.lt_iff_toInt_lt, Int32.le_iff_toInt_le, ← Int32.toInt_inj, Int32.reduceToInt, n_1, n_2, n_8, Int32.toNatClampNeg, Int64.lt_iff_toInt_lt, Int64.le_iff_toInt_le, ← Int64.toInt_inj, Int64.reduceToInt, Int32.toInt_toInt64, lg_cmp_ge, lg_cmp_le, lg_cmp_gt, lg_cmp_lt, lg_cmp_eq, Bool.false_eq_true, Bool.true_eq_false, reduceCtorEq, false_iff, true_iff, iff_true, iff_false, and_true, true_and, and_false, false_and, reduceIte, ite_true, ite_false, eq_self] at *)) <;> omega) (by grind) | exact bs_tf (by ((try simp only [vp_in_iff, Int32.lt_iff_toInt_lt, Int32.le_iff_toInt_le, ← Int32.toInt_inj, Int32.reduceToInt, n_1, n_2, n_8, Int32.toNatClampNeg, Int64.lt_iff_toInt_lt, Int64.le_iff_toInt_le, ← Int64.toInt_inj, Int64.reduceToInt, Int32.toInt_toInt64, lg_cmp_ge, lg_cmp_le, lg_cmp_gt, lg_cmp_lt, lg_cmp_eq, Bool.false_eq_true, Bool.true_eq_false, reduceCtorEq, false_iff, true_iff, iff_true, iff_false, and_true, true_and, and_false, false_and, reduceIte, ite_true, ite_false, eq_self] at *)) <;> omega) (by ((try simp only [vp_in_iff, Int32.lt_iff_toInt_lt, Int32.le_iff_toInt_le, ← Int32.toInt_inj, Int32.reduceToInt, n_1, n_2, n_8, Int32.toNatClampNeg, Int64.lt_iff_toInt_lt, Int64.le_iff_toInt_le, ← Int64.toInt_inj, Int64.reduceToInt, Int32.toInt_toInt64, lg_cmp_ge, lg_cmp_le, lg_cmp_gt, lg_cmp_lt, lg_cmp_eq, Bool.false_eq_true, Bool.true_eq_false, reduceCtorEq, false_iff, true_iff, iff_true, iff_false, and_true, true_and, and_false, false_and, reduceIte, ite_true, ite_false, eq_self] at *)) <;> omega) (by grind)), trivial⟩ rfl
                    · refine wa_iconst (v := 1) (by decide) ?_
                      refine wa_goto o_X12_workAt_89 (by decide) ?_
                      refine wa_istore_nD (lv' := [(3, .int (bI true)), (0, .ref 84), (1, .int a0), (2, .int l2), (4, .int l4)]) (i := 3) rfl (by decide) rfl ?_
                      refine wa_iinc (v := (1)) (lv' := fun y41 => [(4, .int y41), (3, .int (bI true)), (0, .ref 84), (1, .int a0), (2, .int l2)]) (by decide) rfl (by decide) (fun _ => rfl) (fun y41 hy41 => ?_)
                      have ty41 := i_addT hy41.symm
                      clear hy41
                      refine wa_goto o_X12_workAt_49 (by decide) ?_
                      refine wa_pick [2, 3, 4, 1, 0] rfl ?_
                      exact ih26 _ (by ((try simp only [vp_in_iff, Int32.lt_iff_toInt_lt, Int32.le_iff_toInt_le, ← Int32.toInt_inj, Int32.reduceToInt, n_1, n_2, n_8, Int32.toNatClampNeg, Int64.lt_iff_toInt_lt, Int64.le_iff_toInt_le, ← Int64.toInt_inj, Int64.reduceToInt, Int32.toInt_toInt64, lg_cmp_ge, lg_cmp_le, lg_cmp_gt, lg_cmp_lt, lg_cmp_eq, Bool.false_eq_true, Bool.true_eq_false, reduceCtorEq, false_iff, true_iff, iff_true, iff_false, and_true, true_and, and_false, false_and, reduceIte, ite_true, ite_false, eq_self] at *)) <;> omega) _ _ ⟨(by ((try simp only [vp_in_iff, Int32.lt_iff_toInt_lt, Int32.le_iff_toInt_le, ← Int32.toInt_inj, Int32.reduceToInt, n_1, n_2, n_8, Int32.toNatClampNeg, Int64.lt_iff_toInt_lt, Int64.le_iff_toInt_le, ← Int64.toInt_inj, Int64.reduceToInt, Int32.toInt_toInt64, lg_cmp_ge, lg_cmp_le, lg_cmp_gt, lg_cmp_lt, lg_cmp_eq, Bool.false_eq_true, Bool.true_eq_false, reduceCtorEq, false_iff, true_iff, iff_true, iff_false, and_true, true_and, and_false, false_and, reduceIte, ite_true, ite_false, eq_self] at *)) <;> omega), (by ((try simp only [vp_in_iff, Int32.lt_iff_toInt_lt, Int32.le_iff_toInt_le, ← Int32.toInt_inj, Int32.reduceToInt, n_1, n_2, n_8, Int32.toNatClampNeg, Int64.lt_iff_toInt_lt, Int64.le_iff_toInt_le, ← Int64.toInt_inj, Int64.reduceToInt, Int32.toInt_toInt64, lg_cmp_ge, lg_cmp_le, lg_cmp_gt, lg_cmp_lt, lg_cmp_eq, Bool.false_eq_true, Bool.true_eq_false, reduceCtorEq, false_iff, true_iff, iff_true, iff_false, and_true, true_and, and_false, false_and, reduceIte, ite_true, ite_false, eq_self] at *)) <;> omega), (by first | exact bs_0t (by decide) (by grind) | exact bs_0f (by decide) (by grind) | exact bs_ff (by assumption) (by assumption) (by ((try simp only [vp_in_iff, Int32.lt_iff_toInt_lt, Int32.le_iff_toInt_le, ← Int32.toInt_inj, Int32.reduceToInt, n_1, n_2, n_8, Int32.toNatClampNeg, Int64.lt_iff_toInt_lt, Int64.le_iff_toInt_le, ← Int64.toInt_inj, Int64.reduceToInt, Int32.toInt_toInt64, lg_cmp_ge, lg_cmp_le, lg_cmp_gt, lg_cmp_lt, lg_cmp_eq, Bool.false_eq_true, Bool.true_eq_false, reduceCtorEq, false_iff, true_iff, iff_true, iff_false, and_true, true_and, and_false, false_and, reduceIte, ite_true, ite_false, eq_self] at *)) <;> omega) | exact bs_tt (by assumption) (by assumption) (by ((try simp only [vp_in_iff, Int32.lt_iff_toInt_lt, Int32.le_iff_toInt_le, ← Int32.toInt_inj, Int32.reduceToInt, n_1, n_2, n_8, Int32.toNatClampNeg, Int64.lt_iff_toInt_lt, Int64.le_iff_toInt_le, ← Int64.toInt_inj, Int64.reduceToInt, Int32.toInt_toInt64, lg_cmp_ge, lg_cmp_le, lg_cmp_gt, lg_cmp_lt, lg_cmp_eq, Bool.false_eq_true, Bool.true_eq_false, reduceCtorEq, false_iff, true_iff, iff_true, iff_false, and_true, true_and, and_false, false_and, reduceIte, ite_true, ite_false, eq_self] at *)) <;> omega) (by ((try simp only [vp_in_iff, Int32.lt_iff_toInt_lt, Int32.le_iff_toInt_le, ← Int32.toInt_inj, Int32.reduceToInt, n_1, n_2, n_8, Int32.toNatClampNeg, Int64.lt_iff_toInt_lt, Int64.le_iff_toInt_le, ← Int64.toInt_inj, Int64.reduceToInt, Int32.toInt_toInt64, lg_cmp_ge, lg_cmp_le, lg_cmp_gt, lg_cmp_lt, lg_cmp_eq, Bool.false_eq_true, Bool.true_eq_false, reduceCtorEq, false_iff, true_iff, iff_true, iff_false, and_true, true_and, and_false, false_and, reduceIte, ite_true, ite_false, eq_self] at *)) <;> omega) (by grind) | exact bs_tf (by ((try simp only [vp_in_iff, Int32.lt_iff_toInt_lt, Int32.le_iff_toInt_le, ← Int32.toInt_inj, Int32.reduceToInt, n_1, n_2, n_8, Int32.toNatClampNeg, Int64.lt_iff_toInt_lt, Int64.le_iff_toInt_le, ← Int64.toInt_inj, Int64.reduceToInt, Int32.toInt_toInt64, lg_cmp_ge, lg_cmp_le, lg_cmp_gt, lg_cmp_lt, lg_cmp_eq, Bool.false_eq_true, Bool.true_eq_false, reduceCtorEq, false_iff, true_iff, iff_true, iff_false, and_true, true_and, and_false, false_and, reduceIte, ite_true, ite_false, eq_self] at *)) <;> omega) (by ((try simp only [vp_in_iff, Int32.lt_iff_toInt_lt, Int32.le_iff_toInt_le, ← Int32.toInt_inj, Int32.reduceToInt, n_1, n_2, n_8, Int32.toNatClampNeg, Int64.lt_iff_toInt_lt, Int64.le_iff_toInt_le, ← Int64.toInt_inj, Int64.reduceToInt, Int32.toInt_toInt64, lg_cmp_ge, lg_cmp_le, lg_cmp_gt, lg_cmp_lt, lg_cmp_eq, Bool.false_eq_true, Bool.true_eq_false, reduceCtorEq, false_iff, true_iff, iff_true, iff_false, and_true, true_and, and_false, false_and, reduceIte, ite_true, ite_false, eq_self] at *)) <;> omega) (by grind)), trivial⟩ rfl
            exact hi27 _ _ _ ⟨(by ((try simp only [vp_in_iff, Int32.lt_iff_toInt_lt, Int32.le_iff_toInt_le, ← Int32.toInt_inj, Int32.reduceToInt, n_1, n_2, n_8, Int32.toNatClampNeg, Int64.lt_iff_toInt_lt, Int64.le_iff_toInt_le, ← Int64.toInt_inj, Int64.reduceToInt, Int32.toInt_toInt64, lg_cmp_ge, lg_cmp_le, lg_cmp_gt, lg_cmp_lt, lg_cmp_eq, Bool.false_eq_true, Bool.true_eq_false, reduceCtorEq, false_iff, true_iff, iff_true, iff_false, and_true, true_and, and_false, false_and, reduceIte, ite_true, ite_false, eq_self] at *)) <;> omega), (by ((try simp only [vp_in_iff, Int32.lt_iff_toInt_lt, Int32.le_iff_toInt_le, ← Int32.toInt_inj, Int32.reduceToInt, n_1, n_2, n_8, Int32.toNatClampNeg, Int64.lt_iff_toInt_lt, Int64.le_iff_toInt_le, ← Int64.toInt_inj, Int64.reduceToInt, Int32.toInt_toInt64, lg_cmp_ge, lg_cmp_le, lg_cmp_gt, lg_cmp_lt, lg_cmp_eq, Bool.false_eq_true, Bool.true_eq_false, reduceCtorEq, false_iff, true_iff, iff_true, iff_false, and_true, true_and, and_false, false_and, reduceIte, ite_true, ite_false, eq_self] at *)) <;> omega), (by first | exact bs_0t (by decide) (by grind) | exact bs_0f (by decide) (by grind) | exact bs_ff (by assumption) (by assumption) (by ((try simp only [vp_in_iff, Int32.lt_iff_toInt_lt, Int32.le_iff_toInt_le, ← Int32.toInt_inj, Int32.reduceToInt, n_1, n_2, n_8, Int32.toNatClampNeg, Int64.lt_iff_toInt_lt, Int64.le_iff_toInt_le, ← Int64.toInt_inj, Int64.reduceToInt, Int32.toInt_toInt64, lg_cmp_ge, lg_cmp_le, lg_cmp_gt, lg_cmp_lt, lg_cmp_eq, Bool.false_eq_true, Bool.true_eq_false, reduceCtorEq, false_iff, true_iff, iff_true, iff_false, and_true, true_and, and_false, false_and, reduceIte, ite_true, ite_false, eq_self] at *)) <;> omega) | exact bs_tt (by assumption) (by assumption) (by ((try simp only [vp_in_iff, Int32.lt_iff_toInt_lt, Int32.le_iff_toInt_le, ← Int32.toInt_inj, Int32.reduceToInt, n_1, n_2, n_8, Int32.toNatClampNeg, Int64.lt_iff_toInt_lt, Int64.le_iff_toInt_le, ← Int64.toInt_inj, Int64.reduceToInt, Int32.toInt_toInt64, lg_cmp_ge, lg_cmp_le, lg_cmp_gt, lg_cmp_lt, lg_cmp_eq, Bool.false_eq_true, Bool.true_eq_false, reduceCtorEq, false_iff, true_iff, iff_true, iff_false, and_true, true_and, and_false, false_and, reduceIte, ite_true, ite_false, eq_self] at *)) <;> omega) (by ((try simp only [vp_in_iff, Int32.lt_iff_toInt_lt, Int32.le_iff_toInt_le, ← Int32.toInt_inj, Int32.reduceToInt, n_1, n_2, n_8, Int32.toNatClampNeg, Int64.lt_iff_toInt_lt, Int64.le_iff_toInt_le, ← Int64.toInt_inj, Int64.reduceToInt, Int32.toInt_toInt64, lg_cmp_ge, lg_cmp_le, lg_cmp_gt, lg_cmp_lt, lg_cmp_eq, Bool.false_eq_true, Bool.true_eq_false, reduceCtorEq, false_iff, true_iff, iff_true, iff_false, and_true, true_and, and_false, false_and, reduceIte, ite_true, ite_false, eq_self] at *)) <;> omega) (by grind) | exact bs_tf (by ((try simp only [vp_in_iff, Int32.lt_iff_toInt_lt, Int32.le_iff_toInt_le, ← Int32.toInt_inj, Int32.reduceToInt, n_1, n_2, n_8, Int32.toNatClampNeg, Int64.lt_iff_toInt_lt, Int64.le_iff_toInt_le, ← Int64.toInt_inj, Int64.reduceToInt, Int32.toInt_toInt64, lg_cmp_ge, lg_cmp_le, lg_cmp_gt, lg_cmp_lt, lg_cmp_eq, Bool.false_eq_true, Bool.true_eq_false, reduceCtorEq, false_iff, true_iff, iff_true, iff_false, and_true, true_and, and_false, false_and, reduceIte, ite_true, ite_false, eq_self] at *)) <;> omega) (by ((try simp only [vp_in_iff, Int32.lt_iff_toInt_lt, Int32.le_iff_toInt_le, ← Int32.toInt_inj, Int32.reduceToInt, n_1, n_2, n_8, Int32.toNatClampNeg, Int64.lt_iff_toInt_lt, Int64.le_iff_toInt_le, ← Int64.toInt_inj, Int64.reduceToInt, Int32.toInt_toInt64, lg_cmp_ge, lg_cmp_le, lg_cmp_gt, lg_cmp_lt, lg_cmp_eq, Bool.false_eq_true, Bool.true_eq_false, reduceCtorEq, false_iff, true_iff, iff_true, iff_false, and_true, true_and, and_false, false_and, reduceIte, ite_true, ite_false, eq_self] at *)) <;> omega) (by grind)), trivial⟩ rfl
          · refine wa_iconst (v := 1) (by decide) ?_
            refine wa_goto o_X12_workAt_45 (by decide) ?_
            refine wa_istore_nD (lv' := [(3, .int (bI true)), (0, .ref 84), (1, .int a0), (2, .int l2)]) (i := 3) rfl (by decide) rfl ?_
            refine wa_iconst (v := 0) (by decide) ?_
            refine wa_istoreD (lv' := [(4, .int 0), (3, .int (bI true)), (0, .ref 84), (1, .int a0), (2, .int l2)]) (by decide) rfl ?_
            refine wa_pick [2, 3, 4, 1, 0] rfl ?_
            have hi43 : ∀ (n9_49 : Nat) (l3 : Bool) (l4 : Int32), ((0 ≤ l4.toInt) ∧ (0 ≤ l4.toInt ∧ l4.toInt ≤ 4) ∧ (l3 = true ↔ (gi σ 157 (a0).toNatClampNeg = gi σ 135 (l2).toNatClampNeg ∧ gi σ 158 (a0).toNatClampNeg = gi σ 136 (l2).toNatClampNeg) ∧ ∀ v : Nat, (v : Int) < l4.toInt → gi σ 159 (4 * (a0).toNatClampNeg + v) = gi σ 137 (4 * (l2).toNatClampNeg + v)) ∧ (True)) → (2147483647 - l4.toInt).toNat = n9_49 → WA G M_X12_workAt (ZM G M_X12_workAt d (fun r σ' => ∃ x : Int32, r = some (.int x) ∧ σ = σ' ∧ ((x.toInt = -1 ∧ ∀ k : Nat, (k : Int) < (gi σ 84 119).toInt → ¬ EQR σ (a0).toNatClampNeg k) ∨ (0 ≤ x.toInt ∧ x.toInt < (gi σ 84 119).toInt ∧ EQR σ (a0).toNatClampNeg (x).toNatClampNeg)) ∧ True)) B_X12_workAt_49 [(0, .ref 84), (1, .int a0), (2, .int l2), (3, .int (bI l3)), (4, .int l4)] [] σ := by
              intro n9_49
              induction n9_49 using Nat.strongRecOn with
              | _ n9_49 ih42 =>
                intro l3 l4  i9 m9_49
                obtain ⟨jhi43_0, jhi43_1, jhi43_2, -⟩ := i9
                have ul4 := Int32.toInt_lt l4
                have wl4 := Int32.le_toInt l4
                refine wa_iload rfl ?_
                refine wa_iconst (v := 4) (by decide) ?_
                refine wa_icmp_ge o_X12_workAt_96 (by decide) (fun h44 => ?_) (fun h44 => ?_)
                · refine wa_iload_n (i := 3) rfl rfl ?_
                  refine wa_if_eq o_X12_workAt_102 (by decide) (fun h45 => ?_) (fun h45 => ?_)
                  · replace h45 := bI_f (b := l3) (rfl) h45
                    refine wa_iinc (v := (1)) (lv' := fun y46 => [(2, .int y46), (0, .ref 84), (1, .int a0), (3, .int (bI l3)), (4, .int l4)]) (by decide) rfl (by decide) (fun _ => rfl) (fun y46 hy46 => ?_)
                    have ty46 := i_addT hy46.symm
                    clear hy46
                    refine wa_goto o_X12_workAt_2 (by decide) ?_
                    refine wa_pick [1, 2, 0] rfl ?_
                    exact ih1 _ (by ((try simp only [vp_in_iff, Int32.lt_iff_toInt_lt, Int32.le_iff_toInt_le, ← Int32.toInt_inj, Int32.reduceToInt, n_1, n_2, n_8, Int32.toNatClampNeg, Int64.lt_iff_toInt_lt, Int64.le_iff_toInt_le, ← Int64.toInt_inj, Int64.reduceToInt, Int32.toInt_toInt64, lg_cmp_ge, lg_cmp_le, lg_cmp_gt, lg_cmp_lt, lg_cmp_eq, Bool.false_eq_true, Bool.true_eq_false, reduceCtorEq, false_iff, true_iff, iff_true, iff_false, and_true, true_and, and_false, false_and, reduceIte, ite_true, ite_false, eq_self] at *)) <;> omega) _ ⟨(by ((try simp only [vp_in_iff, Int32.lt_iff_toInt_lt, Int32.le_iff_toInt_le, ← Int32.toInt_inj, Int32.reduceToInt, n_1, n_2, n_8, Int32.toNatClampNeg, Int64.lt_iff_toInt_lt, Int64.le_iff_toInt_le, ← Int64.toInt_inj, Int64.reduceToInt, Int32.toInt_toInt64, lg_cmp_ge, lg_cmp_le, lg_cmp_gt, lg_cmp_lt, lg_cmp_eq, Bool.false_eq_true, Bool.true_eq_false, reduceCtorEq, false_iff, true_iff, iff_true, iff_false, and_true, true_and, and_false, false_and, reduceIte, ite_true, ite_false, eq_self] at *)) <;> omega), (by first | exact no_step (by assumption) (by ((try simp only [vp_in_iff, Int32.lt_iff_toInt_lt, Int32.le_iff_toInt_le, ← Int32.toInt_inj, Int32.reduceToInt, n_1, n_2, n_8, Int32.toNatClampNeg, Int64.lt_iff_toInt_lt, Int64.le_iff_toInt_le, ← Int64.toInt_inj, Int64.reduceToInt, Int32.toInt_toInt64, lg_cmp_ge, lg_cmp_le, lg_cmp_gt, lg_cmp_lt, lg_cmp_eq, Bool.false_eq_true, Bool.true_eq_false, reduceCtorEq, false_iff, true_iff, iff_true, iff_false, and_true, true_and, and_false, false_and, reduceIte, ite_true, ite_false, eq_self] at *)) <;> omega) (by ((try simp only [vp_in_iff, Int32.lt_iff_toInt_lt, Int32.le_iff_toInt_le, ← Int32.toInt_inj, Int32.reduceToInt, n_1, n_2, n_8, Int32.toNatClampNeg, Int64.lt_iff_toInt_lt, Int64.le_iff_toInt_le, ← Int64.toInt_inj, Int64.reduceToInt, Int32.toInt_toInt64, lg_cmp_ge, lg_cmp_le, lg_cmp_gt, lg_cmp_lt, lg_cmp_eq, Bool.false_eq_true, Bool.true_eq_false, reduceCtorEq, false_iff, true_iff, iff_true, iff_false, and_true, true_and, and_false, false_and, reduceIte, ite_true, ite_false, eq_self] at *)) <;> omega) (eqr_not (by assumption) (by assumption) (by ((try simp only [vp_in_iff, Int32.lt_iff_toInt_lt, Int32.le_iff_toInt_le, ← Int32.toInt_inj, Int32.reduceToInt, n_1, n_2, n_8, Int32.toNatClampNeg, Int64.lt_iff_toInt_lt, Int64.le_iff_toInt_le, ← Int64.toInt_inj, Int64.reduceToInt, Int32.toInt_toInt64, lg_cmp_ge, lg_cmp_le, lg_cmp_gt, lg_cmp_lt, lg_cmp_eq, Bool.false_eq_true, Bool.true_eq_false, reduceCtorEq, false_iff, true_iff, iff_true, iff_false, and_true, true_and, and_false, false_and, reduceIte, ite_true, ite_false, eq_self] at *)) <;> omega)) | exact no_0 (by decide)), trivial⟩ rfl
                  · replace h45 := bI_t (b := l3) (rfl) h45
                    refine wa_iload_n (i := 2) rfl rfl ?_
                    refine wa_ireturn rfl rfl ?_
                    exact ⟨_, rfl, rfl, (by first | exact Or.inr ⟨by ((try simp only [vp_in_iff, Int32.lt_iff_toInt_lt, Int32.le_iff_toInt_le, ← Int32.toInt_inj, Int32.reduceToInt, n_1, n_2, n_8, Int32.toNatClampNeg, Int64.lt_iff_toInt_lt, Int64.le_iff_toInt_le, ← Int64.toInt_inj, Int64.reduceToInt, Int32.toInt_toInt64, lg_cmp_ge, lg_cmp_le, lg_cmp_gt, lg_cmp_lt, lg_cmp_eq, Bool.false_eq_true, Bool.true_eq_false, reduceCtorEq, false_iff, true_iff, iff_true, iff_false, and_true, true_and, and_false, false_and, reduceIte, ite_true, ite_false, eq_self] at *)) <;> omega, by ((try simp only [vp_in_iff, Int32.lt_iff_toInt_lt, Int32.le_iff_toInt_le, ← Int32.toInt_inj, Int32.reduceToInt, n_1, n_2, n_8, Int32.toNatClampNeg, Int64.lt_iff_toInt_lt, Int64.le_iff_toInt_le, ← Int64.toInt_inj, Int64.reduceToInt, Int32.toInt_toInt64, lg_cmp_ge, lg_cmp_le, lg_cmp_gt, lg_cmp_lt, lg_cmp_eq, Bool.false_eq_true, Bool.true_eq_false, reduceCtorEq, false_iff, true_iff, iff_true, iff_false, and_true, true_and, and_false, false_and, reduceIte, ite_true, ite_false, eq_self] at *)) <;> omega, eqr_of (by assumption) (by assumption) (by ((try simp only [vp_in_iff, Int32.lt_iff_toInt_lt, Int32.le_iff_toInt_le, ← Int32.toInt_inj, Int32.reduceToInt, n_1, n_2, n_8, Int32.toNatClampNeg, Int64.lt_iff_toInt_lt, Int64.le_iff_toInt_le, ← Int64.toInt_inj, Int64.reduceToInt, Int32.toInt_toInt64, lg_cmp_ge, lg_cmp_le, lg_cmp_gt, lg_cmp_lt, lg_cmp_eq, Bool.false_eq_true, Bool.true_eq_false, reduceCtorEq, false_iff, true_iff, iff_true, iff_false, and_true, true_and, and_false, false_and, reduceIte, ite_true, ite_false, eq_self] at *)) <;> omega)⟩ | exact Or.inl ⟨by decide, no_end (by assumption) (by ((try simp only [vp_in_iff, Int32.lt_iff_toInt_lt, Int32.le_iff_toInt_le, ← Int32.toInt_inj, Int32.reduceToInt, n_1, n_2, n_8, Int32.toNatClampNeg, Int64.lt_iff_toInt_lt, Int64.le_iff_toInt_le, ← Int64.toInt_inj, Int64.reduceToInt, Int32.toInt_toInt64, lg_cmp_ge, lg_cmp_le, lg_cmp_gt, lg_cmp_lt, lg_cmp_eq, Bool.false_eq_true, Bool.true_eq_false, reduceCtorEq, false_iff, true_iff, iff_true, iff_false, and_true, true_and, and_false, false_and, reduceIte, ite_true, ite_false, eq_self] at *)) <;> omega)⟩), trivial⟩
                · have mh44 := nle_mx h44
                  refine wa_iload_n (i := 3) rfl rfl ?_
                  refine wa_if_eq o_X12_workAt_88 (by decide) (fun h47 => ?_) (fun h47 => ?_)
                  · replace h47 := bI_f (b := l3) (rfl) h47
                    refine wa_iconst (v := 0) (by decide) ?_
                    refine wa_istore_nD (lv' := [(3, .int (bI false)), (0, .ref 84), (1, .int a0), (2, .int l2), (4, .int l4)]) (i := 3) rfl (by decide) rfl ?_
                    refine wa_iinc (v := (1)) (lv' := fun y48 => [(4, .int y48), (3, .int (bI false)), (0, .ref 84), (1, .int a0), (2, .int l2)]) (by decide) rfl (by decide) (fun _ => rfl) (fun y48 hy48 => ?_)
                    have ty48 := i_addT hy48.symm
                    clear hy48
                    refine wa_goto o_X12_workAt_49 (by decide) ?_
                    refine wa_pick [2, 3, 4, 1, 0] rfl ?_
                    exact ih42 _ (by ((try simp only [vp_in_iff, Int32.lt_iff_toInt_lt, Int32.le_iff_toInt_le, ← Int32.toInt_inj, Int32.reduceToInt, n_1, n_2, n_8, Int32.toNatClampNeg, Int64.lt_iff_toInt_lt, Int64.le_iff_toInt_le, ← Int64.toInt_inj, Int64.reduceToInt, Int32.toInt_toInt64, lg_cmp_ge, lg_cmp_le, lg_cmp_gt, lg_cmp_lt, lg_cmp_eq, Bool.false_eq_true, Bool.true_eq_false, reduceCtorEq, false_iff, true_iff, iff_true, iff_false, and_true, true_and, and_false, false_and, reduceIte, ite_true, ite_false, eq_self] at *)) <;> omega) _ _ ⟨(by ((try simp only [vp_in_iff, Int32.lt_iff_toInt_lt, Int32.le_iff_toInt_le, ← Int32.toInt_inj, Int32.reduceToInt, n_1, n_2, n_8, Int32.toNatClampNeg, Int64.lt_iff_toInt_lt, Int64.le_iff_toInt_le, ← Int64.toInt_inj, Int64.reduceToInt, Int32.toInt_toInt64, lg_cmp_ge, lg_cmp_le, lg_cmp_gt, lg_cmp_lt, lg_cmp_eq, Bool.false_eq_true, Bool.true_eq_false, reduceCtorEq, false_iff, true_iff, iff_true, iff_false, and_true, true_and, and_false, false_and, reduceIte, ite_true, ite_false, eq_self] at *)) <;> omega), (by ((try simp only [vp_in_iff, Int32.lt_iff_toInt_lt, Int32.le_iff_toInt_le, ← Int32.toInt_inj, Int32.reduceToInt, n_1, n_2, n_8, Int32.toNatClampNeg, Int64.lt_iff_toInt_lt, Int64.le_iff_toInt_le, ← Int64.toInt_inj, Int64.reduceToInt, Int32.toInt_toInt64, lg_cmp_ge, lg_cmp_le, lg_cmp_gt, lg_cmp_lt, lg_cmp_eq, Bool.false_eq_true, Bool.true_eq_false, reduceCtorEq, false_iff, true_iff, iff_true, iff_false, and_true, true_and, and_false, false_and, reduceIte, ite_true, ite_false, eq_self] at *)) <;> omega), (by first | exact bs_0t (by decide) (by grind) | exact bs_0f (by decide) (by grind) | exact bs_ff (by assumption) (by assumption) (by ((try simp only [vp_in_iff, Int32.lt_iff_toInt_lt, Int32.le_iff_toInt_le, ← Int32.toInt_inj, Int32.reduceToInt, n_1, n_2, n_8, Int32.toNatClampNeg, Int64.lt_iff_toInt_lt, Int64.le_iff_toInt_le, ← Int64.toInt_inj, Int64.reduceToInt, Int32.toInt_toInt64, lg_cmp_ge, lg_cmp_le, lg_cmp_gt, lg_cmp_lt, lg_cmp_eq, Bool.false_eq_true, Bool.true_eq_false, reduceCtorEq, false_iff, true_iff, iff_true, iff_false, and_true, true_and, and_false, false_and, reduceIte, ite_true, ite_false, eq_self] at *)) <;> omega) | exact bs_tt (by assumption) (by assumption) (by ((try simp only [vp_in_iff, Int32.lt_iff_toInt_lt, Int32.le_iff_toInt_le, ← Int32.toInt_inj, Int32.reduceToInt, n_1, n_2, n_8, Int32.toNatClampNeg, Int64.lt_iff_toInt_lt, Int64.le_iff_toInt_le, ← Int64.toInt_inj, Int64.reduceToInt, Int32.toInt_toInt64, lg_cmp_ge, lg_cmp_le, lg_cmp_gt, lg_cmp_lt, lg_cmp_eq, Bool.false_eq_true, Bool.true_eq_false, reduceCtorEq, false_iff, true_iff, iff_true, iff_false, and_true, true_and, and_false, false_and, reduceIte, ite_true, ite_false, eq_self] at *)) <;> omega) (by ((try simp only [vp_in_iff, Int32.lt_iff_toInt_lt, Int32.le_iff_toInt_le, ← Int32.toInt_inj, Int32.reduceToInt, n_1, n_2, n_8, Int32.toNatClampNeg, Int64.lt_iff_toInt_lt, Int64.le_iff_toInt_le, ← Int64.toInt_inj, Int64.reduceToInt, Int32.toInt_toInt64, lg_cmp_ge, lg_cmp_le, lg_cmp_gt, lg_cmp_lt, lg_cmp_eq, Bool.false_eq_true, Bool.true_eq_false, reduceCtorEq, false_iff, true_iff, iff_true, iff_false, and_true, true_and, and_false, false_and, reduceIte, ite_true, ite_false, eq_self] at *)) <;> omega) (by grind) | exact bs_tf (by ((try simp only [vp_in_iff, Int32.lt_iff_toInt_lt, Int32.le_iff_toInt_le, ← Int32.toInt_inj, Int32.reduceToInt, n_1, n_2, n_8, Int32.toNatClampNeg, Int64.lt_iff_toInt_lt, Int64.le_iff_toInt_le, ← Int64.toInt_inj, Int64.reduceToInt, Int32.toInt_toInt64, lg_cmp_ge, lg_cmp_le, lg_cmp_gt, lg_cmp_lt, lg_cmp_eq, Bool.false_eq_true, Bool.true_eq_false, reduceCtorEq, false_iff, true_iff, iff_true, iff_false, and_true, true_and, and_false, false_and, reduceIte, ite_true, ite_false, eq_self] at *)) <;> omega) (by ((try simp only [vp_in_iff, Int32.lt_iff_toInt_lt, Int32.le_iff_toInt_le, ← Int32.toInt_inj, Int32.reduceToInt, n_1, n_2, n_8, Int32.toNatClampNeg, Int64.lt_iff_toInt_lt, Int64.le_iff_toInt_le, ← Int64.toInt_inj, Int64.reduceToInt, Int32.toInt_toInt64, lg_cmp_ge, lg_cmp_le, lg_cmp_gt, lg_cmp_lt, lg_cmp_eq, Bool.false_eq_true, Bool.true_eq_false, reduceCtorEq, false_iff, true_iff, iff_true, iff_false, and_true, true_and, and_false, false_and, reduceIte, ite_true, ite_false, eq_self] at *)) <;> omega) (by grind)), trivial⟩ rfl
                  · replace h47 := bI_t (b := l3) (rfl) h47
                    refine wa_aload_n (i := 0) rfl rfl ?_
                    refine wa_getr ck_12 fl_12_292 ly_84 rf_84_116 ?_
                    refine wa_iconst (v := 4) (by decide) ?_
                    refine wa_iload_n (i := 2) rfl rfl ?_
                    refine wa_imul ?_
                    refine wa_top (fun v49 hv49 => ?_)
                    have tv49 := i_mulT hv49
                    clear hv49
                    refine wa_iload rfl ?_
                    refine wa_iadd ?_
                    refine wa_top (fun v50 hv50 => ?_)
                    have tv50 := i_addT hv50
                    clear hv50
                    refine wa_iald ly_137 (by ((try simp only [vp_in_iff, Int32.lt_iff_toInt_lt, Int32.le_iff_toInt_le, ← Int32.toInt_inj, Int32.reduceToInt, n_1, n_2, n_8, Int32.toNatClampNeg, Int64.lt_iff_toInt_lt, Int64.le_iff_toInt_le, ← Int64.toInt_inj, Int64.reduceToInt, Int32.toInt_toInt64, lg_cmp_ge, lg_cmp_le, lg_cmp_gt, lg_cmp_lt, lg_cmp_eq, Bool.false_eq_true, Bool.true_eq_false, reduceCtorEq, false_iff, true_iff, iff_true, iff_false, and_true, true_and, and_false, false_and, reduceIte, ite_true, ite_false, eq_self] at *)) <;> omega) ?_
                    refine wa_top (fun v51 hv51 => ?_)
                    have rv51 : -20 ≤ v51.toInt ∧ v51.toInt ≤ 20 := by rw [← hv51]; exact ar_at A_137 _
                    have qv51 : gi σ 137 (4 * (l2).toNatClampNeg + (l4).toNatClampNeg) = v51 := by rw [show 4 * (l2).toNatClampNeg + (l4).toNatClampNeg = (v50).toNatClampNeg from by ((try simp only [vp_in_iff, Int32.lt_iff_toInt_lt, Int32.le_iff_toInt_le, ← Int32.toInt_inj, Int32.reduceToInt, n_1, n_2, n_8, Int32.toNatClampNeg, Int64.lt_iff_toInt_lt, Int64.le_iff_toInt_le, ← Int64.toInt_inj, Int64.reduceToInt, Int32.toInt_toInt64, lg_cmp_ge, lg_cmp_le, lg_cmp_gt, lg_cmp_lt, lg_cmp_eq, Bool.false_eq_true, Bool.true_eq_false, reduceCtorEq, false_iff, true_iff, iff_true, iff_false, and_true, true_and, and_false, false_and, reduceIte, ite_true, ite_false, eq_self] at *)) <;> omega]; exact hv51
                    clear hv51
                    refine wa_aload_n (i := 0) rfl rfl ?_
                    refine wa_getr ck_12 fl_12_226 ly_84 rf_84_86 ?_
                    refine wa_iconst (v := 4) (by decide) ?_
                    refine wa_iload_n (i := 1) rfl rfl ?_
                    refine wa_imul ?_
                    refine wa_top (fun v52 hv52 => ?_)
                    have tv52 := i_mulT hv52
                    clear hv52
                    refine wa_iload rfl ?_
                    refine wa_iadd ?_
                    refine wa_top (fun v53 hv53 => ?_)
                    have tv53 := i_addT hv53
                    clear hv53
                    refine wa_iald ly_159 (by ((try simp only [vp_in_iff, Int32.lt_iff_toInt_lt, Int32.le_iff_toInt_le, ← Int32.toInt_inj, Int32.reduceToInt, n_1, n_2, n_8, Int32.toNatClampNeg, Int64.lt_iff_toInt_lt, Int64.le_iff_toInt_le, ← Int64.toInt_inj, Int64.reduceToInt, Int32.toInt_toInt64, lg_cmp_ge, lg_cmp_le, lg_cmp_gt, lg_cmp_lt, lg_cmp_eq, Bool.false_eq_true, Bool.true_eq_false, reduceCtorEq, false_iff, true_iff, iff_true, iff_false, and_true, true_and, and_false, false_and, reduceIte, ite_true, ite_false, eq_self] at *)) <;> omega) ?_
                    refine wa_top (fun v54 hv54 => ?_)
                    have rv54 : -20 ≤ v54.toInt ∧ v54.toInt ≤ 20 := by rw [← hv54]; exact ar_at A_159 _
                    have qv54 : gi σ 159 (4 * (a0).toNatClampNeg + (l4).toNatClampNeg) = v54 := by rw [show 4 * (a0).toNatClampNeg + (l4).toNatClampNeg = (v53).toNatClampNeg from by ((try simp only [vp_in_iff, Int32.lt_iff_toInt_lt, Int32.le_iff_toInt_le, ← Int32.toInt_inj, Int32.reduceToInt, n_1, n_2, n_8, Int32.toNatClampNeg, Int64.lt_iff_toInt_lt, Int64.le_iff_toInt_le, ← Int64.toInt_inj, Int64.reduceToInt, Int32.toInt_toInt64, lg_cmp_ge, lg_cmp_le, lg_cmp_gt, lg_cmp_lt, lg_cmp_eq, Bool.false_eq_true, Bool.true_eq_false, reduceCtorEq, false_iff, true_iff, iff_true, iff_false, and_true, true_and, and_false, false_and, reduceIte, ite_true, ite_false, eq_self] at *)) <;> omega]; exact hv54
                    clear hv54
                    refine wa_icmp_ne o_X12_workAt_88 (by decide) (fun h55 => ?_) (fun h55 => ?_)
                    · refine wa_iconst (v := 0) (by decide) ?_
                      refine wa_istore_nD (lv' := [(3, .int (bI false)), (0, .ref 84), (1, .int a0), (2, .int l2), (4, .int l4)]) (i := 3) rfl (by decide) rfl ?_
                      refine wa_iinc (v := (1)) (lv' := fun y56 => [(4, .int y56), (3, .int (bI false)), (0, .ref 84), (1, .int a0), (2, .int l2)]) (by decide) rfl (by decide) (fun _ => rfl) (fun y56 hy56 => ?_)
                      have ty56 := i_addT hy56.symm
                      clear hy56
                      refine wa_goto o_X12_workAt_49 (by decide) ?_
                      refine wa_pick [2, 3, 4, 1, 0] rfl ?_
                      exact ih42 _ (by ((try simp only [vp_in_iff, Int32.lt_iff_toInt_lt, Int32.le_iff_toInt_le, ← Int32.toInt_inj, Int32.reduceToInt, n_1, n_2, n_8, Int32.toNatClampNeg, Int64.lt_iff_toInt_lt, Int64.le_iff_toInt_le, ← Int64.toInt_inj, Int64.reduceToInt, Int32.toInt_toInt64, lg_cmp_ge, lg_cmp_le, lg_cmp_gt, lg_cmp_lt, lg_cmp_eq, Bool.false_eq_true, Bool.true_eq_false, reduceCtorEq, false_iff, true_iff, iff_true, iff_false, and_true, true_and, and_false, false_and, reduceIte, ite_true, ite_false, eq_self] at *)) <;> omega) _ _ ⟨(by ((try simp only [vp_in_iff, Int32.lt_iff_toInt_lt, Int32.le_iff_toInt_le, ← Int32.toInt_inj, Int32.reduceToInt, n_1, n_2, n_8, Int32.toNatClampNeg, Int64.lt_iff_toInt_lt, Int64.le_iff_toInt_le, ← Int64.toInt_inj, Int64.reduceToInt, Int32.toInt_toInt64, lg_cmp_ge, lg_cmp_le, lg_cmp_gt, lg_cmp_lt, lg_cmp_eq, Bool.false_eq_true, Bool.true_eq_false, reduceCtorEq, false_iff, true_iff, iff_true, iff_false, and_true, true_and, and_false, false_and, reduceIte, ite_true, ite_false, eq_self] at *)) <;> omega), (by ((try simp only [vp_in_iff, Int32.lt_iff_toInt_lt, Int32.le_iff_toInt_le, ← Int32.toInt_inj, Int32.reduceToInt, n_1, n_2, n_8, Int32.toNatClampNeg, Int64.lt_iff_toInt_lt, Int64.le_iff_toInt_le, ← Int64.toInt_inj, Int64.reduceToInt, Int32.toInt_toInt64, lg_cmp_ge, lg_cmp_le, lg_cmp_gt, lg_cmp_lt, lg_cmp_eq, Bool.false_eq_true, Bool.true_eq_false, reduceCtorEq, false_iff, true_iff, iff_true, iff_false, and_true, true_and, and_false, false_and, reduceIte, ite_true, ite_false, eq_self] at *)) <;> omega), (by first | exact bs_0t (by decide) (by grind) | exact bs_0f (by decide) (by grind) | exact bs_ff (by assumption) (by assumption) (by ((try simp only [vp_in_iff, Int32.lt_iff_toInt_lt, Int32.le_iff_toInt_le, ← Int32.toInt_inj, Int32.reduceToInt, n_1, n_2, n_8, Int32.toNatClampNeg, Int64.lt_iff_toInt_lt, Int64.le_iff_toInt_le, ← Int64.toInt_inj, Int64.reduceToInt, Int32.toInt_toInt64, lg_cmp_ge, lg_cmp_le, lg_cmp_gt, lg_cmp_lt, lg_cmp_eq, Bool.false_eq_true, Bool.true_eq_false, reduceCtorEq, false_iff, true_iff, iff_true, iff_false, and_true, true_and, and_false, false_and, reduceIte, ite_true, ite_false, eq_self] at *)) <;> omega) | exact bs_tt (by assumption) (by assumption) (by ((try simp only [vp_in_iff, Int32.lt_iff_toInt_lt, Int32.le_iff_toInt_le, ← Int32.toInt_inj, Int32.reduceToInt, n_1, n_2, n_8, Int32.toNatClampNeg, Int64.lt_iff_toInt_lt, Int64.le_iff_toInt_le, ← Int64.toInt_inj, Int64.reduceToInt, Int32.toInt_toInt64, lg_cmp_ge, lg_cmp_le, lg_cmp_gt, lg_cmp_lt, lg_cmp_eq, Bool.false_eq_true, Bool.true_eq_false, reduceCtorEq, false_iff, true_iff, iff_true, iff_false, and_true, true_and, and_false, false_and, reduceIte, ite_true, ite_false, eq_self] at *)) <;> omega) (by ((try simp only [vp_in_iff, Int32.lt_iff_toInt_lt, Int32.le_iff_toInt_le, ← Int32.toInt_inj, Int32.reduceToInt, n_1, n_2, n_8, Int32.toNatClampNeg, Int64.lt_iff_toInt_lt, Int64.le_iff_toInt_le, ← Int64.toInt_inj, Int64.reduceToInt, Int32.toInt_toInt64, lg_cmp_ge, lg_cmp_le, lg_cmp_gt, lg_cmp_lt, lg_cmp_eq, Bool.false_eq_true, Bool.true_eq_false, reduceCtorEq, false_iff, true_iff, iff_true, iff_false, and_true, true_and, and_false, false_and, reduceIte, ite_true, ite_false, eq_self] at *)) <;> omega) (by grind) | exact bs_tf (by ((try simp only [vp_in_iff, Int32.lt_iff_toInt_lt, Int32.le_iff_toInt_le, ← Int32.toInt_inj, Int32.reduceToInt, n_1, n_2, n_8, Int32.toNatClampNeg, Int64.lt_iff_toInt_lt, Int64.le_iff_toInt_le, ← Int64.toInt_inj, Int64.reduceToInt, Int32.toInt_toInt64, lg_cmp_ge, lg_cmp_le, lg_cmp_gt, lg_cmp_lt, lg_cmp_eq, Bool.false_eq_true, Bool.true_eq_false, reduceCtorEq, false_iff, true_iff, iff_true, iff_false, and_true, true_and, and_false, false_and, reduceIte, ite_true, ite_false, eq_self] at *)) <;> omega) (by ((try simp only [vp_in_iff, Int32.lt_iff_toInt_lt, Int32.le_iff_toInt_le, ← Int32.toInt_inj, Int32.reduceToInt, n_1, n_2, n_8, Int32.toNatClampNeg, Int64.lt_iff_toInt_lt, Int64.le_iff_toInt_le, ← Int64.toInt_inj, Int64.reduceToInt, Int32.toInt_toInt64, lg_cmp_ge, lg_cmp_le, lg_cmp_gt, lg_cmp_lt, lg_cmp_eq, Bool.false_eq_true, Bool.true_eq_false, reduceCtorEq, false_iff, true_iff, iff_true, iff_false, and_true, true_and, and_false, false_and, reduceIte, ite_true, ite_false, eq_self] at *)) <;> omega) (by grind)), trivial⟩ rfl
                    · refine wa_iconst (v := 1) (by decide) ?_
                      refine wa_goto o_X12_workAt_89 (by decide) ?_
                      refine wa_istore_nD (lv' := [(3, .int (bI true)), (0, .ref 84), (1, .int a0), (2, .int l2), (4, .int l4)]) (i := 3) rfl (by decide) rfl ?_
                      refine wa_iinc (v := (1)) (lv' := fun y57 => [(4, .int y57), (3, .int (bI true)), (0, .ref 84), (1, .int a0), (2, .int l2)]) (by decide) rfl (by decide) (fun _ => rfl) (fun y57 hy57 => ?_)
                      have ty57 := i_addT hy57.symm
                      clear hy57
                      refine wa_goto o_X12_workAt_49 (by decide) ?_
                      refine wa_pick [2, 3, 4, 1, 0] rfl ?_
                      exact ih42 _ (by ((try simp only [vp_in_iff, Int32.lt_iff_toInt_lt, Int32.le_iff_toInt_le, ← Int32.toInt_inj, Int32.reduceToInt, n_1, n_2, n_8, Int32.toNatClampNeg, Int64.lt_iff_toInt_lt, Int64.le_iff_toInt_le, ← Int64.toInt_inj, Int64.reduceToInt, Int32.toInt_toInt64, lg_cmp_ge, lg_cmp_le, lg_cmp_gt, lg_cmp_lt, lg_cmp_eq, Bool.false_eq_true, Bool.true_eq_false, reduceCtorEq, false_iff, true_iff, iff_true, iff_false, and_true, true_and, and_false, false_and, reduceIte, ite_true, ite_false, eq_self] at *)) <;> omega) _ _ ⟨(by ((try simp only [vp_in_iff, Int32.lt_iff_toInt_lt, Int32.le_iff_toInt_le, ← Int32.toInt_inj, Int32.reduceToInt, n_1, n_2, n_8, Int32.toNatClampNeg, Int64.lt_iff_toInt_lt, Int64.le_iff_toInt_le, ← Int64.toInt_inj, Int64.reduceToInt, Int32.toInt_toInt64, lg_cmp_ge, lg_cmp_le, lg_cmp_gt, lg_cmp_lt, lg_cmp_eq, Bool.false_eq_true, Bool.true_eq_false, reduceCtorEq, false_iff, true_iff, iff_true, iff_false, and_true, true_and, and_false, false_and, reduceIte, ite_true, ite_false, eq_self] at *)) <;> omega), (by ((try simp only [vp_in_iff, Int32.lt_iff_toInt_lt, Int32.le_iff_toInt_le, ← Int32.toInt_inj, Int32.reduceToInt, n_1, n_2, n_8, Int32.toNatClampNeg, Int64.lt_iff_toInt_lt, Int64.le_iff_toInt_le, ← Int64.toInt_inj, Int64.reduceToInt, Int32.toInt_toInt64, lg_cmp_ge, lg_cmp_le, lg_cmp_gt, lg_cmp_lt, lg_cmp_eq, Bool.false_eq_true, Bool.true_eq_false, reduceCtorEq, false_iff, true_iff, iff_true, iff_false, and_true, true_and, and_false, false_and, reduceIte, ite_true, ite_false, eq_self] at *)) <;> omega), (by first | exact bs_0t (by decide) (by grind) | exact bs_0f (by decide) (by grind) | exact bs_ff (by assumption) (by assumption) (by ((try simp only [vp_in_iff, Int32.lt_iff_toInt_lt, Int32.le_iff_toInt_le, ← Int32.toInt_inj, Int32.reduceToInt, n_1, n_2, n_8, Int32.toNatClampNeg, Int64.lt_iff_toInt_lt, Int64.le_iff_toInt_le, ← Int64.toInt_inj, Int64.reduceToInt, Int32.toInt_toInt64, lg_cmp_ge, lg_cmp_le, lg_cmp_gt, lg_cmp_lt, lg_cmp_eq, Bool.false_eq_true, Bool.true_eq_false, reduceCtorEq, false_iff, true_iff, iff_true, iff_false, and_true, true_and, and_false, false_and, reduceIte, ite_true, ite_false, eq_self] at *)) <;> omega) | exact bs_tt (by assumption) (by assumption) (by ((try simp only [vp_in_iff, Int32.lt_iff_toInt_lt, Int32.le_iff_toInt_le, ← Int32.toInt_inj, Int32.reduceToInt, n_1, n_2, n_8, Int32.toNatClampNeg, Int64.lt_iff_toInt_lt, Int64.le_iff_toInt_le, ← Int64.toInt_inj, Int64.reduceToInt, Int32.toInt_toInt64, lg_cmp_ge, lg_cmp_le, lg_cmp_gt, lg_cmp_lt, lg_cmp_eq, Bool.false_eq_true, Bool.true_eq_false, reduceCtorEq, false_iff, true_iff, iff_true, iff_false, and_true, true_and, and_false, false_and, reduceIte, ite_true, ite_false, eq_self] at *)) <;> omega) (by ((try simp only [vp_in_iff, Int32.lt_iff_toInt_lt, Int32.le_iff_toInt_le, ← Int32.toInt_inj, Int32.reduceToInt, n_1, n_2, n_8, Int32.toNatClampNeg, Int64.lt_iff_toInt_lt, Int64.le_iff_toInt_le, ← Int64.toInt_inj, Int64.reduceToInt, Int32.toInt_toInt64, lg_cmp_ge, lg_cmp_le, lg_cmp_gt, lg_cmp_lt, lg_cmp_eq, Bool.false_eq_true, Bool.true_eq_false, reduceCtorEq, false_iff, true_iff, iff_true, iff_false, and_true, true_and, and_false, false_and, reduceIte, ite_true, ite_false, eq_self] at *)) <;> omega) (by grind) | exact bs_tf (by ((try simp only [vp_in_iff, Int32.lt_iff_toInt_lt, Int32.le_iff_toInt_le, ← Int32.toInt_inj, Int32.reduceToInt, n_1, n_2, n_8, Int32.toNatClampNeg, Int64.lt_iff_toInt_lt, Int64.le_iff_toInt_le, ← Int64.toInt_inj, Int64.reduceToInt, Int32.toInt_toInt64, lg_cmp_ge, lg_cmp_le, lg_cmp_gt, lg_cmp_lt, lg_cmp_eq, Bool.false_eq_true, Bool.true_eq_false, reduceCtorEq, false_iff, true_iff, iff_true, iff_false, and_true, true_and, and_false, false_and, reduceIte, ite_true, ite_false, eq_self] at *)) <;> omega) (by ((try simp only [vp_in_iff, Int32.lt_iff_toInt_lt, Int32.le_iff_toInt_le, ← Int32.toInt_inj, Int32.reduceToInt, n_1, n_2, n_8, Int32.toNatClampNeg, Int64.lt_iff_toInt_lt, Int64.le_iff_toInt_le, ← Int64.toInt_inj, Int64.reduceToInt, Int32.toInt_toInt64, lg_cmp_ge, lg_cmp_le, lg_cmp_gt, lg_cmp_lt, lg_cmp_eq, Bool.false_eq_true, Bool.true_eq_false, reduceCtorEq, false_iff, true_iff, iff_true, iff_false, and_true, true_and, and_false, false_and, reduceIte, ite_true, ite_false, eq_self] at *)) <;> omega) (by grind)), trivial⟩ rfl
            exact hi43 _ _ _ ⟨(by ((try simp only [vp_in_iff, Int32.lt_iff_toInt_lt, Int32.le_iff_toInt_le, ← Int32.toInt_inj, Int32.reduceToInt, n_1, n_2, n_8, Int32.toNatClampNeg, Int64.lt_iff_toInt_lt, Int64.le_iff_toInt_le, ← Int64.toInt_inj, Int64.reduceToInt, Int32.toInt_toInt64, lg_cmp_ge, lg_cmp_le, lg_cmp_gt, lg_cmp_lt, lg_cmp_eq, Bool.false_eq_true, Bool.true_eq_false, reduceCtorEq, false_iff, true_iff, iff_true, iff_false, and_true, true_and, and_false, false_and, reduceIte, ite_true, ite_false, eq_self] at *)) <;> omega), (by ((try simp only [vp_in_iff, Int32.lt_iff_toInt_lt, Int32.le_iff_toInt_le, ← Int32.toInt_inj, Int32.reduceToInt, n_1, n_2, n_8, Int32.toNatClampNeg, Int64.lt_iff_toInt_lt, Int64.le_iff_toInt_le, ← Int64.toInt_inj, Int64.reduceToInt, Int32.toInt_toInt64, lg_cmp_ge, lg_cmp_le, lg_cmp_gt, lg_cmp_lt, lg_cmp_eq, Bool.false_eq_true, Bool.true_eq_false, reduceCtorEq, false_iff, true_iff, iff_true, iff_false, and_true, true_and, and_false, false_and, reduceIte, ite_true, ite_false, eq_self] at *)) <;> omega), (by first | exact bs_0t (by decide) (by grind) | exact bs_0f (by decide) (by grind) | exact bs_ff (by assumption) (by assumption) (by ((try simp only [vp_in_iff, Int32.lt_iff_toInt_lt, Int32.le_iff_toInt_le, ← Int32.toInt_inj, Int32.reduceToInt, n_1, n_2, n_8, Int32.toNatClampNeg, Int64.lt_iff_toInt_lt, Int64.le_iff_toInt_le, ← Int64.toInt_inj, Int64.reduceToInt, Int32.toInt_toInt64, lg_cmp_ge, lg_cmp_le, lg_cmp_gt, lg_cmp_lt, lg_cmp_eq, Bool.false_eq_true, Bool.true_eq_false, reduceCtorEq, false_iff, true_iff, iff_true, iff_false, and_true, true_and, and_false, false_and, reduceIte, ite_true, ite_false, eq_self] at *)) <;> omega) | exact bs_tt (by assumption) (by assumption) (by ((try simp only [vp_in_iff, Int32.lt_iff_toInt_lt, Int32.le_iff_toInt_le, ← Int32.toInt_inj, Int32.reduceToInt, n_1, n_2, n_8, Int32.toNatClampNeg, Int64.lt_iff_toInt_lt, Int64.le_iff_toInt_le, ← Int64.toInt_inj, Int64.reduceToInt, Int32.toInt_toInt64, lg_cmp_ge, lg_cmp_le, lg_cmp_gt, lg_cmp_lt, lg_cmp_eq, Bool.false_eq_true, Bool.true_eq_false, reduceCtorEq, false_iff, true_iff, iff_true, iff_false, and_true, true_and, and_false, false_and, reduceIte, ite_true, ite_false, eq_self] at *)) <;> omega) (by ((try simp only [vp_in_iff, Int32.lt_iff_toInt_lt, Int32.le_iff_toInt_le, ← Int32.toInt_inj, Int32.reduceToInt, n_1, n_2, n_8, Int32.toNatClampNeg, Int64.lt_iff_toInt_lt, Int64.le_iff_toInt_le, ← Int64.toInt_inj, Int64.reduceToInt, Int32.toInt_toInt64, lg_cmp_ge, lg_cmp_le, lg_cmp_gt, lg_cmp_lt, lg_cmp_eq, Bool.false_eq_true, Bool.true_eq_false, reduceCtorEq, false_iff, true_iff, iff_true, iff_false, and_true, true_and, and_false, false_and, reduceIte, ite_true, ite_false, eq_self] at *)) <;> omega) (by grind) | exact bs_tf (by ((try simp only [vp_in_iff, Int32.lt_iff_toInt_lt, Int32.le_iff_toInt_le, ← Int32.toInt_inj, Int32.reduceToInt, n_1, n_2, n_8, Int32.toNatClampNeg, Int64.lt_iff_toInt_lt, Int64.le_iff_toInt_le, ← Int64.toInt_inj, Int64.reduceToInt, Int32.toInt_toInt64, lg_cmp_ge, lg_cmp_le, lg_cmp_gt, lg_cmp_lt, lg_cmp_eq, Bool.false_eq_true, Bool.true_eq_false, reduceCtorEq, false_iff, true_iff, iff_true, iff_false, and_true, true_and, and_false, false_and, reduceIte, ite_true, ite_false, eq_self] at *)) <;> omega) (by ((try simp only [vp_in_iff, Int32.lt_iff_toInt_lt, Int32.le_iff_toInt_le, ← Int32.toInt_inj, Int32.reduceToInt, n_1, n_2, n_8, Int32.toNatClampNeg, Int64.lt_iff_toInt_lt, Int64.le_iff_toInt_le, ← Int64.toInt_inj, Int64.reduceToInt, Int32.toInt_toInt64, lg_cmp_ge, lg_cmp_le, lg_cmp_gt, lg_cmp_lt, lg_cmp_eq, Bool.false_eq_true, Bool.true_eq_false, reduceCtorEq, false_iff, true_iff, iff_true, iff_false, and_true, true_and, and_false, false_and, reduceIte, ite_true, ite_false, eq_self] at *)) <;> omega) (by grind)), trivial⟩ rfl
  exact hi2 _ _ ⟨(by ((try simp only [vp_in_iff, Int32.lt_iff_toInt_lt, Int32.le_iff_toInt_le, ← Int32.toInt_inj, Int32.reduceToInt, n_1, n_2, n_8, Int32.toNatClampNeg, Int64.lt_iff_toInt_lt, Int64.le_iff_toInt_le, ← Int64.toInt_inj, Int64.reduceToInt, Int32.toInt_toInt64, lg_cmp_ge, lg_cmp_le, lg_cmp_gt, lg_cmp_lt, lg_cmp_eq, Bool.false_eq_true, Bool.true_eq_false, reduceCtorEq, false_iff, true_iff, iff_true, iff_false, and_true, true_and, and_false, false_and, reduceIte, ite_true, ite_false, eq_self] at *)) <;> omega), (by first | exact no_step (by assumption) (by ((try simp only [vp_in_iff, Int32.lt_iff_toInt_lt, Int32.le_iff_toInt_le, ← Int32.toInt_inj, Int32.reduceToInt, n_1, n_2, n_8, Int32.toNatClampNeg, Int64.lt_iff_toInt_lt, Int64.le_iff_toInt_le, ← Int64.toInt_inj, Int64.reduceToInt, Int32.toInt_toInt64, lg_cmp_ge, lg_cmp_le, lg_cmp_gt, lg_cmp_lt, lg_cmp_eq, Bool.false_eq_true, Bool.true_eq_false, reduceCtorEq, false_iff, true_iff, iff_true, iff_false, and_true, true_and, and_false, false_and, reduceIte, ite_true, ite_false, eq_self] at *)) <;> omega) (by ((try simp only [vp_in_iff, Int32.lt_iff_toInt_lt, Int32.le_iff_toInt_le, ← Int32.toInt_inj, Int32.reduceToInt, n_1, n_2, n_8, Int32.toNatClampNeg, Int64.lt_iff_toInt_lt, Int64.le_iff_toInt_le, ← Int64.toInt_inj, Int64.reduceToInt, Int32.toInt_toInt64, lg_cmp_ge, lg_cmp_le, lg_cmp_gt, lg_cmp_lt, lg_cmp_eq, Bool.false_eq_true, Bool.true_eq_false, reduceCtorEq, false_iff, true_iff, iff_true, iff_false, and_true, true_and, and_false, false_and, reduceIte, ite_true, ite_false, eq_self] at *)) <;> omega) (eqr_not (by assumption) (by assumption) (by ((try simp only [vp_in_iff, Int32.lt_iff_toInt_lt, Int32.le_iff_toInt_le, ← Int32.toInt_inj, Int32.reduceToInt, n_1, n_2, n_8, Int32.toNatClampNeg, Int64.lt_iff_toInt_lt, Int64.le_iff_toInt_le, ← Int64.toInt_inj, Int64.reduceToInt, Int32.toInt_toInt64, lg_cmp_ge, lg_cmp_le, lg_cmp_gt, lg_cmp_lt, lg_cmp_eq, Bool.false_eq_true, Bool.true_eq_false, reduceCtorEq, false_iff, true_iff, iff_true, iff_false, and_true, true_and, and_false, false_and, reduceIte, ite_true, ite_false, eq_self] at *)) <;> omega)) | exact no_0 (by decide)), trivial⟩ rfl
theorem pad_31a : True := trivial
