set_option maxHeartbeats 4000000 in
theorem sp_X9_slackSign (G : kG9) {d : Nat} (hd : 1 ≤ d) (σ : St) (a0 : Int32) (r1 : 0 ≤ (gi σ 60 12).toInt ∧ (gi σ 60 12).toInt ≤ 4) : Ct G M_X9_slackSign d [.ref 60, .int a0] σ (fun r σ' => ∃ x : Int32, r = some (.int x) ∧ σ = σ' ∧ True) := by
  refine wa_start (by decide) rfl (Nat.le_of_ble_eq_true rfl) (lv := [(0, .ref 60), (1, .int a0)]) rfl o_X9_slackSign_0 rfl ?_
  have ua0 := Int32.toInt_lt a0
  have wa0 := Int32.le_toInt a0
  refine wa_ldc2 (v := (1073741823)) (allW_in (kT_7 _ (List.mem_of_getElem? (i := 195) rfl)) rfl) ?_
  refine wa_lstore_nD (lv' := [(2, .long (1073741823)), (0, .ref 60), (1, .int a0)]) (i := 2) rfl (by decide) rfl ?_
  refine wa_aload_n (i := 0) rfl rfl ?_
  refine wa_iload_n (i := 1) rfl rfl ?_
  refine wa_iconst (v := 4) (by decide) ?_
  refine wa_Vl (d9 := d - 1) [.int _, .int _] [] (sp_X9_rowNumber G (d := d - 1) (by omega) σ _ _) (rfl) rfl rfl (zr (by omega)) mk_X9_rowNumber ly_60 ml_9_99 (Nat.le_of_ble_eq_true rfl) (fun x2 s1 hs1 => ?_)
  obtain ⟨zs1, -⟩ := pL hs1
  subst zs1
  refine wa_aload_n (i := 0) rfl rfl ?_
  refine wa_getl ck_9 fl_9_41 ly_60 ?_
  refine wa_lmul ?_
  refine wa_topl (fun v3 hv3 => ?_)
  clear hv3
  refine wa_lstoreD (lv' := [(4, .long v3), (2, .long (1073741823)), (0, .ref 60), (1, .int a0)]) (by decide) rfl ?_
  refine wa_lload rfl ?_
  refine wa_bipush (v := 30) (by decide) ?_
  refine wa_lshr ?_
  refine wa_topl (fun v4 hv4 => ?_)
  clear hv4
  refine wa_lstoreD (lv' := [(6, .long v4), (4, .long v3), (2, .long (1073741823)), (0, .ref 60), (1, .int a0)]) (by decide) rfl ?_
  refine wa_lload rfl ?_
  refine wa_lload_n (i := 2) rfl rfl ?_
  refine wa_land ?_
  refine wa_topl (fun v5 hv5 => ?_)
  clear hv5
  refine wa_lstoreD (lv' := [(8, .long v5), (6, .long v4), (4, .long v3), (2, .long (1073741823)), (0, .ref 60), (1, .int a0)]) (by decide) rfl ?_
  refine wa_iconst (v := 0) (by decide) ?_
  refine wa_istoreD (lv' := [(10, .int 0), (8, .long v5), (6, .long v4), (4, .long v3), (2, .long (1073741823)), (0, .ref 60), (1, .int a0)]) (by decide) rfl ?_
  refine wa_pick [5, 6, 4, 2, 1, 0] rfl ?_
  have hi7 : ∀ (n9_33 : Nat) (l6 : Int64) (l8 : Int64) (l10 : Int32), ((0 ≤ l10.toInt) ∧ (True)) → (2147483647 - l10.toInt).toNat = n9_33 → WA G M_X9_slackSign (ZM G M_X9_slackSign d (fun r σ' => ∃ x : Int32, r = some (.int x) ∧ σ = σ' ∧ True)) B_X9_slackSign_33 [(0, .ref 60), (1, .int a0), (2, .long (1073741823)), (6, .long l6), (8, .long l8), (10, .int l10)] [] σ := by
    intro n9_33
    induction n9_33 using Nat.strongRecOn with
    | _ n9_33 ih6 =>
      intro l6 l8 l10  i9 m9_33
      obtain ⟨jhi7_0, -⟩ := i9
      have ul10 := Int32.toInt_lt l10
      have wl10 := Int32.le_toInt l10
      refine wa_iload rfl ?_
      refine wa_aload_n (i := 0) rfl rfl ?_
      refine wa_geti ck_9 fl_9_62 ly_60 ?_
      refine wa_icmp_ge o_X9_slackSign_93 (by decide) (fun h8 => ?_) (fun h8 => ?_)
      · refine wa_lload rfl ?_
        refine wa_lload rfl ?_
        refine wa_bipush (v := 30) (by decide) ?_
        refine wa_lshr ?_
        refine wa_topl (fun v9 hv9 => ?_)
        clear hv9
        refine wa_ladd ?_
        refine wa_topl (fun v10 hv10 => ?_)
        clear hv10
        refine wa_lload rfl ?_
        refine wa_lload_n (i := 2) rfl rfl ?_
        refine wa_land ?_
        refine wa_topl (fun v11 hv11 => ?_)
        clear hv11
        refine wa_Si (d9 := d - 1) [.long _, .long _] [] (sp_X9_signOf G (d := d - 1) (by omega) σ _ _) (rfl) rfl rfl (zr (by omega)) mk_X9_signOf ml_9_159 (Nat.le_of_ble_eq_true rfl) (fun x13 s12 hs12 => ?_)
        obtain ⟨zs12, -⟩ := pI hs12
        subst zs12
        refine wa_ireturn rfl rfl ?_
        exact ⟨_, rfl, rfl, trivial⟩
      · have mh8 := nle_mx h8
        refine wa_lload rfl ?_
        refine wa_aload_n (i := 0) rfl rfl ?_
        refine wa_iload_n (i := 1) rfl rfl ?_
        refine wa_iload rfl ?_
        refine wa_Vl (d9 := d - 1) [.int _, .int _] [.long l6] (sp_X9_rowNumber G (d := d - 1) (by omega) σ _ _) (rfl) rfl rfl (zr (by omega)) mk_X9_rowNumber ly_60 ml_9_99 (Nat.le_of_ble_eq_true rfl) (fun x15 s14 hs14 => ?_)
        obtain ⟨zs14, -⟩ := pL hs14
        subst zs14
        refine wa_aload_n (i := 0) rfl rfl ?_
        refine wa_getr ck_9 fl_9_28 ly_60 rf_60_5 ?_
        refine wa_iload rfl ?_
        refine wa_lald ly_66 (by ((try simp only [vp_in_iff, Int32.lt_iff_toInt_lt, Int32.le_iff_toInt_le, ← Int32.toInt_inj, Int32.reduceToInt, n_1, n_2, n_8, Int32.toNatClampNeg, Int64.lt_iff_toInt_lt, Int64.le_iff_toInt_le, ← Int64.toInt_inj, Int64.reduceToInt, Int32.toInt_toInt64, lg_cmp_ge, lg_cmp_le, lg_cmp_gt, lg_cmp_lt, lg_cmp_eq, Bool.false_eq_true, Bool.true_eq_false, reduceCtorEq, false_iff, true_iff, iff_true, iff_false, and_true, true_and, and_false, false_and, reduceIte, ite_true, ite_false, eq_self] at *)) <;> omega) ?_
        refine wa_bipush (v := 30) (by decide) ?_
        refine wa_lshr ?_
        refine wa_topl (fun v16 hv16 => ?_)
        clear hv16
        refine wa_lmul ?_
        refine wa_topl (fun v17 hv17 => ?_)
        clear hv17
        refine wa_lsub ?_
        refine wa_topl (fun v18 hv18 => ?_)
        clear hv18
        refine wa_lstoreD (lv' := [(6, .long v18), (0, .ref 60), (1, .int a0), (2, .long (1073741823)), (8, .long l8), (10, .int l10)]) (by decide) rfl ?_
        refine wa_lload rfl ?_
        refine wa_aload_n (i := 0) rfl rfl ?_
        refine wa_iload_n (i := 1) rfl rfl ?_
        refine wa_iload rfl ?_
        refine wa_Vl (d9 := d - 1) [.int _, .int _] [.long l8] (sp_X9_rowNumber G (d := d - 1) (by omega) σ _ _) (rfl) rfl rfl (zr (by omega)) mk_X9_rowNumber ly_60 ml_9_99 (Nat.le_of_ble_eq_true rfl) (fun x20 s19 hs19 => ?_)
        obtain ⟨zs19, -⟩ := pL hs19
        subst zs19
        refine wa_aload_n (i := 0) rfl rfl ?_
        refine wa_getr ck_9 fl_9_28 ly_60 rf_60_5 ?_
        refine wa_iload rfl ?_
        refine wa_lald ly_66 (by ((try simp only [vp_in_iff, Int32.lt_iff_toInt_lt, Int32.le_iff_toInt_le, ← Int32.toInt_inj, Int32.reduceToInt, n_1, n_2, n_8, Int32.toNatClampNeg, Int64.lt_iff_toInt_lt, Int64.le_iff_toInt_le, ← Int64.toInt_inj, Int64.reduceToInt, Int32.toInt_toInt64, lg_cmp_ge, lg_cmp_le, lg_cmp_gt, lg_cmp_lt, lg_cmp_eq, Bool.false_eq_true, Bool.true_eq_false, reduceCtorEq, false_iff, true_iff, iff_true, iff_false, and_true, true_and, and_false, false_and, reduceIte, ite_true, ite_false, eq_self] at *)) <;> omega) ?_
        refine wa_lload_n (i := 2) rfl rfl ?_
        refine wa_land ?_
        refine wa_topl (fun v21 hv21 => ?_)
        clear hv21
        refine wa_lmul ?_
        refine wa_topl (fun v22 hv22 => ?_)
        clear hv22
        refine wa_lsub ?_
        refine wa_topl (fun v23 hv23 => ?_)
        clear hv23
        refine wa_lstoreD (lv' := [(8, .long v23), (6, .long v18), (0, .ref 60), (1, .int a0), (2, .long (1073741823)), (10, .int l10)]) (by decide) rfl ?_
        refine wa_iinc (v := (1)) (lv' := fun y24 => [(10, .int y24), (8, .long v23), (6, .long v18), (0, .ref 60), (1, .int a0), (2, .long (1073741823))]) (by decide) rfl (by decide) (fun _ => rfl) (fun y24 hy24 => ?_)
        have ty24 := i_addT hy24.symm
        clear hy24
        refine wa_goto o_X9_slackSign_33 (by decide) ?_
        refine wa_pick [3, 4, 5, 2, 1, 0] rfl ?_
        exact ih6 _ (by ((try simp only [vp_in_iff, Int32.lt_iff_toInt_lt, Int32.le_iff_toInt_le, ← Int32.toInt_inj, Int32.reduceToInt, n_1, n_2, n_8, Int32.toNatClampNeg, Int64.lt_iff_toInt_lt, Int64.le_iff_toInt_le, ← Int64.toInt_inj, Int64.reduceToInt, Int32.toInt_toInt64, lg_cmp_ge, lg_cmp_le, lg_cmp_gt, lg_cmp_lt, lg_cmp_eq, Bool.false_eq_true, Bool.true_eq_false, reduceCtorEq, false_iff, true_iff, iff_true, iff_false, and_true, true_and, and_false, false_and, reduceIte, ite_true, ite_false, eq_self] at *)) <;> omega) _ _ _ ⟨(by ((try simp only [vp_in_iff, Int32.lt_iff_toInt_lt, Int32.le_iff_toInt_le, ← Int32.toInt_inj, Int32.reduceToInt, n_1, n_2, n_8, Int32.toNatClampNeg, Int64.lt_iff_toInt_lt, Int64.le_iff_toInt_le, ← Int64.toInt_inj, Int64.reduceToInt, Int32.toInt_toInt64, lg_cmp_ge, lg_cmp_le, lg_cmp_gt, lg_cmp_lt, lg_cmp_eq, Bool.false_eq_true, Bool.true_eq_false, reduceCtorEq, false_iff, true_iff, iff_true, iff_false, and_true, true_and, and_false, false_and, reduceIte, ite_true, ite_false, eq_self] at *)) <;> omega), trivial⟩ rfl
  exact hi7 _ _ _ _ ⟨(by ((try simp only [vp_in_iff, Int32.lt_iff_toInt_lt, Int32.le_iff_toInt_le, ← Int32.toInt_inj, Int32.reduceToInt, n_1, n_2, n_8, Int32.toNatClampNeg, Int64.lt_iff_toInt_lt, Int64.le_iff_toInt_le, ← Int64.toInt_inj, Int64.reduceToInt, Int32.toInt_toInt64, lg_cmp_ge, lg_cmp_le, lg_cmp_gt, lg_cmp_lt, lg_cmp_eq, Bool.false_eq_true, Bool.true_eq_false, reduceCtorEq, false_iff, true_iff, iff_true, iff_false, and_true, true_and, and_false, false_and, reduceIte, ite_true, ite_false, eq_self] at *)) <;> omega), trivial⟩ rfl
set_option maxHeartbeats 4000000 in
theorem sp_X9_brokenRow (G : kG9) {d : Nat} (hd : 2 ≤ d) (σ : St) (r1 : 0 ≤ (gi σ 60 12).toInt ∧ (gi σ 60 12).toInt ≤ 4) : Ct G M_X9_brokenRow d [.ref 60] σ (fun r σ' => ∃ x : Int32, r = some (.int x) ∧ σ = σ' ∧ True) := by
  refine wa_start (by decide) rfl (Nat.le_of_ble_eq_true rfl) (lv := [(0, .ref 60)]) rfl o_X9_brokenRow_0 rfl ?_
  refine wa_iconst (v := 0) (by decide) ?_
  refine wa_istore_nD (lv' := [(1, .int 0), (0, .ref 60)]) (i := 1) rfl (by decide) rfl ?_
  refine wa_pick [1, 0] rfl ?_
  have hi2 : ∀ (n9_2 : Nat) (l1 : Int32), ((0 ≤ l1.toInt) ∧ (True)) → (2147483647 - l1.toInt).toNat = n9_2 → WA G M_X9_brokenRow (ZM G M_X9_brokenRow d (fun r σ' => ∃ x : Int32, r = some (.int x) ∧ σ = σ' ∧ True)) B_X9_brokenRow_2 [(0, .ref 60), (1, .int l1)] [] σ := by
    intro n9_2
    induction n9_2 using Nat.strongRecOn with
    | _ n9_2 ih1 =>
      intro l1  i9 m9_2
      obtain ⟨jhi2_0, -⟩ := i9
      have ul1 := Int32.toInt_lt l1
      have wl1 := Int32.le_toInt l1
      refine wa_iload_n (i := 1) rfl rfl ?_
      refine wa_aload_n (i := 0) rfl rfl ?_
      refine wa_geti ck_9 fl_9_44 ly_60 ?_
      refine wa_icmp_ge o_X9_brokenRow_76 (by decide) (fun h3 => ?_) (fun h3 => ?_)
      · refine wa_iconst (v := (-1)) (by decide) ?_
        refine wa_ireturn rfl rfl ?_
        exact ⟨_, rfl, rfl, trivial⟩
      · have mh3 := nle_mx h3
        refine wa_lconst (v := 0) (by decide) ?_
        refine wa_lstore_nD (lv' := [(2, .long 0), (0, .ref 60), (1, .int l1)]) (i := 2) rfl (by decide) rfl ?_
        refine wa_iconst (v := 0) (by decide) ?_
        refine wa_istoreD (lv' := [(4, .int 0), (2, .long 0), (0, .ref 60), (1, .int l1)]) (by decide) rfl ?_
        refine wa_pick [2, 3, 1, 0] rfl ?_
        have hi5 : ∀ (n9_15 : Nat) (l2 : Int64) (l4 : Int32), ((0 ≤ l4.toInt) ∧ (True)) → (2147483647 - l4.toInt).toNat = n9_15 → WA G M_X9_brokenRow (ZM G M_X9_brokenRow d (fun r σ' => ∃ x : Int32, r = some (.int x) ∧ σ = σ' ∧ True)) B_X9_brokenRow_15 [(0, .ref 60), (1, .int l1), (2, .long l2), (4, .int l4)] [] σ := by
          intro n9_15
          induction n9_15 using Nat.strongRecOn with
          | _ n9_15 ih4 =>
            intro l2 l4  i9 m9_15
            obtain ⟨jhi5_0, -⟩ := i9
            have ul4 := Int32.toInt_lt l4
            have wl4 := Int32.le_toInt l4
            refine wa_iload rfl ?_
            refine wa_aload_n (i := 0) rfl rfl ?_
            refine wa_geti ck_9 fl_9_62 ly_60 ?_
            refine wa_icmp_ge o_X9_brokenRow_48 (by decide) (fun h6 => ?_) (fun h6 => ?_)
            · refine wa_lload_n (i := 2) rfl rfl ?_
              refine wa_lconst (v := 0) (by decide) ?_
              refine wa_lcmp ?_
              refine wa_top (fun v7 hv7 => ?_)
              have tv7 := i_cmpT hv7
              clear hv7
              refine wa_if_gt o_X9_brokenRow_68 (by decide) (fun h8 => ?_) (fun h8 => ?_)
              · refine wa_iload_n (i := 1) rfl rfl ?_
                refine wa_ireturn rfl rfl ?_
                exact ⟨_, rfl, rfl, trivial⟩
              · refine wa_lload_n (i := 2) rfl rfl ?_
                refine wa_lconst (v := 0) (by decide) ?_
                refine wa_lcmp ?_
                refine wa_top (fun v9 hv9 => ?_)
                have tv9 := i_cmpT hv9
                clear hv9
                refine wa_if_ne o_X9_brokenRow_70 (by decide) (fun h10 => ?_) (fun h10 => ?_)
                · refine wa_iinc (v := (1)) (lv' := fun y11 => [(1, .int y11), (0, .ref 60), (2, .long l2), (4, .int l4)]) (by decide) rfl (by decide) (fun _ => rfl) (fun y11 hy11 => ?_)
                  have ty11 := i_addT hy11.symm
                  clear hy11
                  refine wa_goto o_X9_brokenRow_2 (by decide) ?_
                  refine wa_pick [1, 0] rfl ?_
                  exact ih1 _ (by ((try simp only [vp_in_iff, Int32.lt_iff_toInt_lt, Int32.le_iff_toInt_le, ← Int32.toInt_inj, Int32.reduceToInt, n_1, n_2, n_8, Int32.toNatClampNeg, Int64.lt_iff_toInt_lt, Int64.le_iff_toInt_le, ← Int64.toInt_inj, Int64.reduceToInt, Int32.toInt_toInt64, lg_cmp_ge, lg_cmp_le, lg_cmp_gt, lg_cmp_lt, lg_cmp_eq, Bool.false_eq_true, Bool.true_eq_false, reduceCtorEq, false_iff, true_iff, iff_true, iff_false, and_true, true_and, and_false, false_and, reduceIte, ite_true, ite_false, eq_self] at *)) <;> omega) _ ⟨(by ((try simp only [vp_in_iff, Int32.lt_iff_toInt_lt, Int32.le_iff_toInt_le, ← Int32.toInt_inj, Int32.reduceToInt, n_1, n_2, n_8, Int32.toNatClampNeg, Int64.lt_iff_toInt_lt, Int64.le_iff_toInt_le, ← Int64.toInt_inj, Int64.reduceToInt, Int32.toInt_toInt64, lg_cmp_ge, lg_cmp_le, lg_cmp_gt, lg_cmp_lt, lg_cmp_eq, Bool.false_eq_true, Bool.true_eq_false, reduceCtorEq, false_iff, true_iff, iff_true, iff_false, and_true, true_and, and_false, false_and, reduceIte, ite_true, ite_false, eq_self] at *)) <;> omega), trivial⟩ rfl
                · refine wa_aload_n (i := 0) rfl rfl ?_
                  refine wa_iload_n (i := 1) rfl rfl ?_
                  refine wa_Vi (d9 := d - 1) [.int _] [] (sp_X9_slackSign G (d := d - 1) (by omega) σ _ (by first | assumption | exact Or.inl rfl | exact Or.inr rfl | (((try simp only [vp_in_iff, Int32.lt_iff_toInt_lt, Int32.le_iff_toInt_le, ← Int32.toInt_inj, Int32.reduceToInt, n_1, n_2, n_8, Int32.toNatClampNeg, Int64.lt_iff_toInt_lt, Int64.le_iff_toInt_le, ← Int64.toInt_inj, Int64.reduceToInt, Int32.toInt_toInt64, lg_cmp_ge, lg_cmp_le, lg_cmp_gt, lg_cmp_lt, lg_cmp_eq, Bool.false_eq_true, Bool.true_eq_false, reduceCtorEq, false_iff, true_iff, iff_true, iff_false, and_true, true_and, and_false, false_and, reduceIte, ite_true, ite_false, eq_self] at *)) <;> omega))) (rfl) rfl rfl (zr (by omega)) mk_X9_slackSign ly_60 ml_9_153 (Nat.le_of_ble_eq_true rfl) (fun x13 s12 hs12 => ?_)
                  obtain ⟨zs12, -⟩ := pI hs12
                  subst zs12
                  refine wa_if_ge o_X9_brokenRow_70 (by decide) (fun h14 => ?_) (fun h14 => ?_)
                  · refine wa_iinc (v := (1)) (lv' := fun y15 => [(1, .int y15), (0, .ref 60), (2, .long l2), (4, .int l4)]) (by decide) rfl (by decide) (fun _ => rfl) (fun y15 hy15 => ?_)
                    have ty15 := i_addT hy15.symm
                    clear hy15
                    refine wa_goto o_X9_brokenRow_2 (by decide) ?_
                    refine wa_pick [1, 0] rfl ?_
                    exact ih1 _ (by ((try simp only [vp_in_iff, Int32.lt_iff_toInt_lt, Int32.le_iff_toInt_le, ← Int32.toInt_inj, Int32.reduceToInt, n_1, n_2, n_8, Int32.toNatClampNeg, Int64.lt_iff_toInt_lt, Int64.le_iff_toInt_le, ← Int64.toInt_inj, Int64.reduceToInt, Int32.toInt_toInt64, lg_cmp_ge, lg_cmp_le, lg_cmp_gt, lg_cmp_lt, lg_cmp_eq, Bool.false_eq_true, Bool.true_eq_false, reduceCtorEq, false_iff, true_iff, iff_true, iff_false, and_true, true_and, and_false, false_and, reduceIte, ite_true, ite_false, eq_self] at *)) <;> omega) _ ⟨(by ((try simp only [vp_in_iff, Int32.lt_iff_toInt_lt, Int32.le_iff_toInt_le, ← Int32.toInt_inj, Int32.reduceToInt, n_1, n_2, n_8, Int32.toNatClampNeg, Int64.lt_iff_toInt_lt, Int64.le_iff_toInt_le, ← Int64.toInt_inj, Int64.reduceToInt, Int32.toInt_toInt64, lg_cmp_ge, lg_cmp_le, lg_cmp_gt, lg_cmp_lt, lg_cmp_eq, Bool.false_eq_true, Bool.true_eq_false, reduceCtorEq, false_iff, true_iff, iff_true, iff_false, and_true, true_and, and_false, false_and, reduceIte, ite_true, ite_false, eq_self] at *)) <;> omega), trivial⟩ rfl
                  · refine wa_iload_n (i := 1) rfl rfl ?_
                    refine wa_ireturn rfl rfl ?_
                    exact ⟨_, rfl, rfl, trivial⟩
            · have mh6 := nle_mx h6
              refine wa_lload_n (i := 2) rfl rfl ?_
              refine wa_aload_n (i := 0) rfl rfl ?_
              refine wa_iload_n (i := 1) rfl rfl ?_
              refine wa_iload rfl ?_
              refine wa_Vl (d9 := d - 1) [.int _, .int _] [.long l2] (sp_X9_rowNumber G (d := d - 1) (by omega) σ _ _) (rfl) rfl rfl (zr (by omega)) mk_X9_rowNumber ly_60 ml_9_99 (Nat.le_of_ble_eq_true rfl) (fun x17 s16 hs16 => ?_)
              obtain ⟨zs16, -⟩ := pL hs16
              subst zs16
              refine wa_aload_n (i := 0) rfl rfl ?_
              refine wa_getr ck_9 fl_9_31 ly_60 rf_60_6 ?_
              refine wa_iload rfl ?_
              refine wa_lald ly_67 (by ((try simp only [vp_in_iff, Int32.lt_iff_toInt_lt, Int32.le_iff_toInt_le, ← Int32.toInt_inj, Int32.reduceToInt, n_1, n_2, n_8, Int32.toNatClampNeg, Int64.lt_iff_toInt_lt, Int64.le_iff_toInt_le, ← Int64.toInt_inj, Int64.reduceToInt, Int32.toInt_toInt64, lg_cmp_ge, lg_cmp_le, lg_cmp_gt, lg_cmp_lt, lg_cmp_eq, Bool.false_eq_true, Bool.true_eq_false, reduceCtorEq, false_iff, true_iff, iff_true, iff_false, and_true, true_and, and_false, false_and, reduceIte, ite_true, ite_false, eq_self] at *)) <;> omega) ?_
              refine wa_lmul ?_
              refine wa_topl (fun v18 hv18 => ?_)
              clear hv18
              refine wa_ladd ?_
              refine wa_topl (fun v19 hv19 => ?_)
              clear hv19
              refine wa_lstore_nD (lv' := [(2, .long v19), (0, .ref 60), (1, .int l1), (4, .int l4)]) (i := 2) rfl (by decide) rfl ?_
              refine wa_iinc (v := (1)) (lv' := fun y20 => [(4, .int y20), (2, .long v19), (0, .ref 60), (1, .int l1)]) (by decide) rfl (by decide) (fun _ => rfl) (fun y20 hy20 => ?_)
              have ty20 := i_addT hy20.symm
              clear hy20
              refine wa_goto o_X9_brokenRow_15 (by decide) ?_
              refine wa_pick [2, 3, 1, 0] rfl ?_
              exact ih4 _ (by ((try simp only [vp_in_iff, Int32.lt_iff_toInt_lt, Int32.le_iff_toInt_le, ← Int32.toInt_inj, Int32.reduceToInt, n_1, n_2, n_8, Int32.toNatClampNeg, Int64.lt_iff_toInt_lt, Int64.le_iff_toInt_le, ← Int64.toInt_inj, Int64.reduceToInt, Int32.toInt_toInt64, lg_cmp_ge, lg_cmp_le, lg_cmp_gt, lg_cmp_lt, lg_cmp_eq, Bool.false_eq_true, Bool.true_eq_false, reduceCtorEq, false_iff, true_iff, iff_true, iff_false, and_true, true_and, and_false, false_and, reduceIte, ite_true, ite_false, eq_self] at *)) <;> omega) _ _ ⟨(by ((try simp only [vp_in_iff, Int32.lt_iff_toInt_lt, Int32.le_iff_toInt_le, ← Int32.toInt_inj, Int32.reduceToInt, n_1, n_2, n_8, Int32.toNatClampNeg, Int64.lt_iff_toInt_lt, Int64.le_iff_toInt_le, ← Int64.toInt_inj, Int64.reduceToInt, Int32.toInt_toInt64, lg_cmp_ge, lg_cmp_le, lg_cmp_gt, lg_cmp_lt, lg_cmp_eq, Bool.false_eq_true, Bool.true_eq_false, reduceCtorEq, false_iff, true_iff, iff_true, iff_false, and_true, true_and, and_false, false_and, reduceIte, ite_true, ite_false, eq_self] at *)) <;> omega), trivial⟩ rfl
        exact hi5 _ _ _ ⟨(by ((try simp only [vp_in_iff, Int32.lt_iff_toInt_lt, Int32.le_iff_toInt_le, ← Int32.toInt_inj, Int32.reduceToInt, n_1, n_2, n_8, Int32.toNatClampNeg, Int64.lt_iff_toInt_lt, Int64.le_iff_toInt_le, ← Int64.toInt_inj, Int64.reduceToInt, Int32.toInt_toInt64, lg_cmp_ge, lg_cmp_le, lg_cmp_gt, lg_cmp_lt, lg_cmp_eq, Bool.false_eq_true, Bool.true_eq_false, reduceCtorEq, false_iff, true_iff, iff_true, iff_false, and_true, true_and, and_false, false_and, reduceIte, ite_true, ite_false, eq_self] at *)) <;> omega), trivial⟩ rfl
  exact hi2 _ _ ⟨(by ((try simp only [vp_in_iff, Int32.lt_iff_toInt_lt, Int32.le_iff_toInt_le, ← Int32.toInt_inj, Int32.reduceToInt, n_1, n_2, n_8, Int32.toNatClampNeg, Int64.lt_iff_toInt_lt, Int64.le_iff_toInt_le, ← Int64.toInt_inj, Int64.reduceToInt, Int32.toInt_toInt64, lg_cmp_ge, lg_cmp_le, lg_cmp_gt, lg_cmp_lt, lg_cmp_eq, Bool.false_eq_true, Bool.true_eq_false, reduceCtorEq, false_iff, true_iff, iff_true, iff_false, and_true, true_and, and_false, false_and, reduceIte, ite_true, ite_false, eq_self] at *)) <;> omega), trivial⟩ rfl
set_option maxHeartbeats 4000000 in
theorem sp_X9_verdict (G : kG9) {d : Nat} (hd : 0 ≤ d) (σ : St) (r1 : 0 ≤ (gi σ 60 12).toInt ∧ (gi σ 60 12).toInt ≤ 4) : Ct G M_X9_verdict d [.ref 60] σ (fun r σ' => ∃ x : Int32, r = some (.int x) ∧ σ = σ' ∧ True) := by
  refine wa_start (by decide) rfl (Nat.le_of_ble_eq_true rfl) (lv := [(0, .ref 60)]) rfl o_X9_verdict_0 rfl ?_
  refine wa_lconst (v := 0) (by decide) ?_
  refine wa_lstore_nD (lv' := [(1, .long 0), (0, .ref 60)]) (i := 1) rfl (by decide) rfl ?_
  refine wa_iconst (v := 1) (by decide) ?_
  refine wa_istore_nD (lv' := [(3, .int (bI true)), (1, .long 0), (0, .ref 60)]) (i := 3) rfl (by decide) rfl ?_
  refine wa_iconst (v := 0) (by decide) ?_
  refine wa_istoreD (lv' := [(4, .int 0), (3, .int (bI true)), (1, .long 0), (0, .ref 60)]) (by decide) rfl ?_
  refine wa_pick [3, 2, 1, 0] rfl ?_
  have hi2 : ∀ (n9_7 : Nat) (l1 : Int64) (l3 : Bool) (l4 : Int32), ((0 ≤ l4.toInt) ∧ (True)) → (2147483647 - l4.toInt).toNat = n9_7 → WA G M_X9_verdict (ZM G M_X9_verdict d (fun r σ' => ∃ x : Int32, r = some (.int x) ∧ σ = σ' ∧ True)) B_X9_verdict_7 [(0, .ref 60), (1, .long l1), (3, .int (bI l3)), (4, .int l4)] [] σ := by
    intro n9_7
    induction n9_7 using Nat.strongRecOn with
    | _ n9_7 ih1 =>
      intro l1 l3 l4  i9 m9_7
      obtain ⟨jhi2_0, -⟩ := i9
      have ul4 := Int32.toInt_lt l4
      have wl4 := Int32.le_toInt l4
      refine wa_iload rfl ?_
      refine wa_aload_n (i := 0) rfl rfl ?_
      refine wa_geti ck_9 fl_9_62 ly_60 ?_
      refine wa_icmp_ge o_X9_verdict_60 (by decide) (fun h3 => ?_) (fun h3 => ?_)
      · refine wa_iload_n (i := 3) rfl rfl ?_
        refine wa_if_eq o_X9_verdict_68 (by decide) (fun h4 => ?_) (fun h4 => ?_)
        · replace h4 := bI_f (b := l3) (rfl) h4
          refine wa_lload_n (i := 1) rfl rfl ?_
          refine wa_lconst (v := 0) (by decide) ?_
          refine wa_lcmp ?_
          refine wa_top (fun v5 hv5 => ?_)
          have tv5 := i_cmpT hv5
          clear hv5
          refine wa_if_ne o_X9_verdict_78 (by decide) (fun h6 => ?_) (fun h6 => ?_)
          · refine wa_iconst (v := 2) (by decide) ?_
            refine wa_ireturn rfl rfl ?_
            exact ⟨_, rfl, rfl, trivial⟩
          · refine wa_iconst (v := 3) (by decide) ?_
            refine wa_goto o_X9_verdict_79 (by decide) ?_
            refine wa_ireturn rfl rfl ?_
            exact ⟨_, rfl, rfl, trivial⟩
        · replace h4 := bI_t (b := l3) (rfl) h4
          refine wa_iconst (v := 1) (by decide) ?_
          refine wa_goto o_X9_verdict_79 (by decide) ?_
          refine wa_ireturn rfl rfl ?_
          exact ⟨_, rfl, rfl, trivial⟩
      · have mh3 := nle_mx h3
        refine wa_lload_n (i := 1) rfl rfl ?_
        refine wa_aload_n (i := 0) rfl rfl ?_
        refine wa_getr ck_9 fl_9_15 ly_60 rf_60_1 ?_
        refine wa_iload rfl ?_
        refine wa_lald ly_62 (by ((try simp only [vp_in_iff, Int32.lt_iff_toInt_lt, Int32.le_iff_toInt_le, ← Int32.toInt_inj, Int32.reduceToInt, n_1, n_2, n_8, Int32.toNatClampNeg, Int64.lt_iff_toInt_lt, Int64.le_iff_toInt_le, ← Int64.toInt_inj, Int64.reduceToInt, Int32.toInt_toInt64, lg_cmp_ge, lg_cmp_le, lg_cmp_gt, lg_cmp_lt, lg_cmp_eq, Bool.false_eq_true, Bool.true_eq_false, reduceCtorEq, false_iff, true_iff, iff_true, iff_false, and_true, true_and, and_false, false_and, reduceIte, ite_true, ite_false, eq_self] at *)) <;> omega) ?_
        refine wa_aload_n (i := 0) rfl rfl ?_
        refine wa_getr ck_9 fl_9_31 ly_60 rf_60_6 ?_
        refine wa_iload rfl ?_
        refine wa_lald ly_67 (by ((try simp only [vp_in_iff, Int32.lt_iff_toInt_lt, Int32.le_iff_toInt_le, ← Int32.toInt_inj, Int32.reduceToInt, n_1, n_2, n_8, Int32.toNatClampNeg, Int64.lt_iff_toInt_lt, Int64.le_iff_toInt_le, ← Int64.toInt_inj, Int64.reduceToInt, Int32.toInt_toInt64, lg_cmp_ge, lg_cmp_le, lg_cmp_gt, lg_cmp_lt, lg_cmp_eq, Bool.false_eq_true, Bool.true_eq_false, reduceCtorEq, false_iff, true_iff, iff_true, iff_false, and_true, true_and, and_false, false_and, reduceIte, ite_true, ite_false, eq_self] at *)) <;> omega) ?_
        refine wa_lmul ?_
        refine wa_topl (fun v7 hv7 => ?_)
        clear hv7
        refine wa_ladd ?_
        refine wa_topl (fun v8 hv8 => ?_)
        clear hv8
        refine wa_lstore_nD (lv' := [(1, .long v8), (0, .ref 60), (3, .int (bI l3)), (4, .int l4)]) (i := 1) rfl (by decide) rfl ?_
        refine wa_iload_n (i := 3) rfl rfl ?_
        refine wa_aload_n (i := 0) rfl rfl ?_
        refine wa_getr ck_9 fl_9_31 ly_60 rf_60_6 ?_
        refine wa_iload rfl ?_
        refine wa_lald ly_67 (by ((try simp only [vp_in_iff, Int32.lt_iff_toInt_lt, Int32.le_iff_toInt_le, ← Int32.toInt_inj, Int32.reduceToInt, n_1, n_2, n_8, Int32.toNatClampNeg, Int64.lt_iff_toInt_lt, Int64.le_iff_toInt_le, ← Int64.toInt_inj, Int64.reduceToInt, Int32.toInt_toInt64, lg_cmp_ge, lg_cmp_le, lg_cmp_gt, lg_cmp_lt, lg_cmp_eq, Bool.false_eq_true, Bool.true_eq_false, reduceCtorEq, false_iff, true_iff, iff_true, iff_false, and_true, true_and, and_false, false_and, reduceIte, ite_true, ite_false, eq_self] at *)) <;> omega) ?_
        refine wa_lconst (v := 0) (by decide) ?_
        refine wa_lcmp ?_
        refine wa_top (fun v9 hv9 => ?_)
        have tv9 := i_cmpT hv9
        clear hv9
        refine wa_if_ne o_X9_verdict_51 (by decide) (fun h10 => ?_) (fun h10 => ?_)
        · refine wa_iconst (v := 0) (by decide) ?_
          refine wa_iand ?_
          refine wa_rw (bI_and (a := l3) (b := false) rfl rfl) ?_
          refine wa_istore_nD (lv' := [(3, .int (bI (l3 && false))), (1, .long v8), (0, .ref 60), (4, .int l4)]) (i := 3) rfl (by decide) rfl ?_
          refine wa_iinc (v := (1)) (lv' := fun y11 => [(4, .int y11), (3, .int (bI (l3 && false))), (1, .long v8), (0, .ref 60)]) (by decide) rfl (by decide) (fun _ => rfl) (fun y11 hy11 => ?_)
          have ty11 := i_addT hy11.symm
          clear hy11
          refine wa_goto o_X9_verdict_7 (by decide) ?_
          refine wa_pick [3, 2, 1, 0] rfl ?_
          exact ih1 _ (by ((try simp only [vp_in_iff, Int32.lt_iff_toInt_lt, Int32.le_iff_toInt_le, ← Int32.toInt_inj, Int32.reduceToInt, n_1, n_2, n_8, Int32.toNatClampNeg, Int64.lt_iff_toInt_lt, Int64.le_iff_toInt_le, ← Int64.toInt_inj, Int64.reduceToInt, Int32.toInt_toInt64, lg_cmp_ge, lg_cmp_le, lg_cmp_gt, lg_cmp_lt, lg_cmp_eq, Bool.false_eq_true, Bool.true_eq_false, reduceCtorEq, false_iff, true_iff, iff_true, iff_false, and_true, true_and, and_false, false_and, reduceIte, ite_true, ite_false, eq_self] at *)) <;> omega) _ _ _ ⟨(by ((try simp only [vp_in_iff, Int32.lt_iff_toInt_lt, Int32.le_iff_toInt_le, ← Int32.toInt_inj, Int32.reduceToInt, n_1, n_2, n_8, Int32.toNatClampNeg, Int64.lt_iff_toInt_lt, Int64.le_iff_toInt_le, ← Int64.toInt_inj, Int64.reduceToInt, Int32.toInt_toInt64, lg_cmp_ge, lg_cmp_le, lg_cmp_gt, lg_cmp_lt, lg_cmp_eq, Bool.false_eq_true, Bool.true_eq_false, reduceCtorEq, false_iff, true_iff, iff_true, iff_false, and_true, true_and, and_false, false_and, reduceIte, ite_true, ite_false, eq_self] at *)) <;> omega), trivial⟩ rfl
        · refine wa_iconst (v := 1) (by decide) ?_
          refine wa_goto o_X9_verdict_52 (by decide) ?_
          refine wa_iand ?_
          refine wa_rw (bI_and (a := l3) (b := true) rfl rfl) ?_
          refine wa_istore_nD (lv' := [(3, .int (bI (l3 && true))), (1, .long v8), (0, .ref 60), (4, .int l4)]) (i := 3) rfl (by decide) rfl ?_
          refine wa_iinc (v := (1)) (lv' := fun y12 => [(4, .int y12), (3, .int (bI (l3 && true))), (1, .long v8), (0, .ref 60)]) (by decide) rfl (by decide) (fun _ => rfl) (fun y12 hy12 => ?_)
          have ty12 := i_addT hy12.symm
          clear hy12
          refine wa_goto o_X9_verdict_7 (by decide) ?_
          refine wa_pick [3, 2, 1, 0] rfl ?_
          exact ih1 _ (by ((try simp only [vp_in_iff, Int32.lt_iff_toInt_lt, Int32.le_iff_toInt_le, ← Int32.toInt_inj, Int32.reduceToInt, n_1, n_2, n_8, Int32.toNatClampNeg, Int64.lt_iff_toInt_lt, Int64.le_iff_toInt_le, ← Int64.toInt_inj, Int64.reduceToInt, Int32.toInt_toInt64, lg_cmp_ge, lg_cmp_le, lg_cmp_gt, lg_cmp_lt, lg_cmp_eq, Bool.false_eq_true, Bool.true_eq_false, reduceCtorEq, false_iff, true_iff, iff_true, iff_false, and_true, true_and, and_false, false_and, reduceIte, ite_true, ite_false, eq_self] at *)) <;> omega) _ _ _ ⟨(by ((try simp only [vp_in_iff, Int32.lt_iff_toInt_lt, Int32.le_iff_toInt_le, ← Int32.toInt_inj, Int32.reduceToInt, n_1, n_2, n_8, Int32.toNatClampNeg, Int64.lt_iff_toInt_lt, Int64.le_iff_toInt_le, ← Int64.toInt_inj, Int64.reduceToInt, Int32.toInt_toInt64, lg_cmp_ge, lg_cmp_le, lg_cmp_gt, lg_cmp_lt, lg_cmp_eq, Bool.false_eq_true, Bool.true_eq_false, reduceCtorEq, false_iff, true_iff, iff_true, iff_false, and_true, true_and, and_false, false_and, reduceIte, ite_true, ite_false, eq_self] at *)) <;> omega), trivial⟩ rfl
  exact hi2 _ _ _ _ ⟨(by ((try simp only [vp_in_iff, Int32.lt_iff_toInt_lt, Int32.le_iff_toInt_le, ← Int32.toInt_inj, Int32.reduceToInt, n_1, n_2, n_8, Int32.toNatClampNeg, Int64.lt_iff_toInt_lt, Int64.le_iff_toInt_le, ← Int64.toInt_inj, Int64.reduceToInt, Int32.toInt_toInt64, lg_cmp_ge, lg_cmp_le, lg_cmp_gt, lg_cmp_lt, lg_cmp_eq, Bool.false_eq_true, Bool.true_eq_false, reduceCtorEq, false_iff, true_iff, iff_true, iff_false, and_true, true_and, and_false, false_and, reduceIte, ite_true, ite_false, eq_self] at *)) <;> omega), trivial⟩ rfl
set_option maxHeartbeats 4000000 in
theorem sp_X9_mixOf (G : kG9) {d : Nat} (hd : 1 ≤ d) (σ : St) (a0 : Int32) (r1 : 0 ≤ (gi σ 60 12).toInt ∧ (gi σ 60 12).toInt ≤ 4) : Ct G M_X9_mixOf d [.ref 60, .int a0] σ (fun r σ' => Sm 65 66 σ σ' ∧ True) := by
  refine wa_start (by decide) rfl (Nat.le_of_ble_eq_true rfl) (lv := [(0, .ref 60), (1, .int a0)]) rfl o_X9_mixOf_0 rfl ?_
  have ua0 := Int32.toInt_lt a0
  have wa0 := Int32.le_toInt a0
  refine wa_iconst (v := 0) (by decide) ?_
  refine wa_istore_nD (lv' := [(2, .int 0), (0, .ref 60), (1, .int a0)]) (i := 2) rfl (by decide) rfl ?_
  refine wa_pick [1, 2, 0] rfl ?_
  have hi3 : ∀ (n9_2 : Nat) (l2 : Int32) (s1 : St), ((Sm 65 66 σ s1) ∧ (gi s1 60 12 = gi σ 60 12) ∧ (0 ≤ l2.toInt) ∧ (True)) → (2147483647 - l2.toInt).toNat = n9_2 → WA G M_X9_mixOf (ZM G M_X9_mixOf d (fun r σ' => Sm 65 66 σ σ' ∧ True)) B_X9_mixOf_2 [(0, .ref 60), (1, .int a0), (2, .int l2)] [] s1 := by
    intro n9_2
    induction n9_2 using Nat.strongRecOn with
    | _ n9_2 ih2 =>
      intro l2 s1 i9 m9_2
      obtain ⟨Fs1, khi3_0, jhi3_0, -⟩ := i9
      have ul2 := Int32.toInt_lt l2
      have wl2 := Int32.le_toInt l2
      refine wa_iload_n (i := 2) rfl rfl ?_
      refine wa_iconst (v := 4) (by decide) ?_
      refine wa_icmp_ge o_X9_mixOf_70 (by decide) (fun h4 => ?_) (fun h4 => ?_)
      · refine wa_return (st := []) rfl rfl ?_
        exact ⟨Fs1, trivial⟩
      · have mh4 := nle_mx h4
        refine wa_aload_n (i := 0) rfl rfl ?_
        refine wa_getr ck_9 fl_9_25 ly_60 rf_60_4 ?_
        refine wa_iload_n (i := 2) rfl rfl ?_
        refine wa_lconst (v := 0) (by decide) ?_
        refine wa_last ly_65 (by ((try simp only [vp_in_iff, Int32.lt_iff_toInt_lt, Int32.le_iff_toInt_le, ← Int32.toInt_inj, Int32.reduceToInt, n_1, n_2, n_8, Int32.toNatClampNeg, Int64.lt_iff_toInt_lt, Int64.le_iff_toInt_le, ← Int64.toInt_inj, Int64.reduceToInt, Int32.toInt_toInt64, lg_cmp_ge, lg_cmp_le, lg_cmp_gt, lg_cmp_lt, lg_cmp_eq, Bool.false_eq_true, Bool.true_eq_false, reduceCtorEq, false_iff, true_iff, iff_true, iff_false, and_true, true_and, and_false, false_and, reduceIte, ite_true, ite_false, eq_self] at *)) <;> omega) (fun s5 hs5 => ?_)
        have Fs5 : Sm 65 66 σ s5 := by rw [hs5]; exact Sm.sl Fs1 _ _ (by decide) (by decide)
        refine wa_iconst (v := 0) (by decide) ?_
        refine wa_istore_nD (lv' := [(3, .int 0), (0, .ref 60), (1, .int a0), (2, .int l2)]) (i := 3) rfl (by decide) rfl ?_
        refine wa_pick [1, 2, 3, 0] rfl ?_
        have hi8 : ∀ (n9_16 : Nat) (l3 : Int32) (s6 : St), ((Sm 65 66 σ s6) ∧ (gi s6 60 12 = gi σ 60 12) ∧ (0 ≤ l3.toInt) ∧ (True)) → (2147483647 - l3.toInt).toNat = n9_16 → WA G M_X9_mixOf (ZM G M_X9_mixOf d (fun r σ' => Sm 65 66 σ σ' ∧ True)) B_X9_mixOf_16 [(0, .ref 60), (1, .int a0), (2, .int l2), (3, .int l3)] [] s6 := by
          intro n9_16
          induction n9_16 using Nat.strongRecOn with
          | _ n9_16 ih7 =>
            intro l3 s6 i9 m9_16
            obtain ⟨Fs6, khi8_0, jhi8_0, -⟩ := i9
            have ul3 := Int32.toInt_lt l3
            have wl3 := Int32.le_toInt l3
            refine wa_iload_n (i := 3) rfl rfl ?_
            refine wa_aload_n (i := 0) rfl rfl ?_
            refine wa_geti ck_9 fl_9_62 ly_60 ?_
            refine wa_rw (khi8_0) ?_
            refine wa_icmp_ge o_X9_mixOf_64 (by decide) (fun h9 => ?_) (fun h9 => ?_)
            · refine wa_iinc (v := (1)) (lv' := fun y10 => [(2, .int y10), (0, .ref 60), (1, .int a0), (3, .int l3)]) (by decide) rfl (by decide) (fun _ => rfl) (fun y10 hy10 => ?_)
              have ty10 := i_addT hy10.symm
              clear hy10
              refine wa_goto o_X9_mixOf_2 (by decide) ?_
              refine wa_pick [1, 2, 0] rfl ?_
              exact ih2 _ (by ((try simp only [vp_in_iff, Int32.lt_iff_toInt_lt, Int32.le_iff_toInt_le, ← Int32.toInt_inj, Int32.reduceToInt, n_1, n_2, n_8, Int32.toNatClampNeg, Int64.lt_iff_toInt_lt, Int64.le_iff_toInt_le, ← Int64.toInt_inj, Int64.reduceToInt, Int32.toInt_toInt64, lg_cmp_ge, lg_cmp_le, lg_cmp_gt, lg_cmp_lt, lg_cmp_eq, Bool.false_eq_true, Bool.true_eq_false, reduceCtorEq, false_iff, true_iff, iff_true, iff_false, and_true, true_and, and_false, false_and, reduceIte, ite_true, ite_false, eq_self] at *)) <;> omega) _ _ ⟨Fs6, (khi8_0), (by ((try simp only [vp_in_iff, Int32.lt_iff_toInt_lt, Int32.le_iff_toInt_le, ← Int32.toInt_inj, Int32.reduceToInt, n_1, n_2, n_8, Int32.toNatClampNeg, Int64.lt_iff_toInt_lt, Int64.le_iff_toInt_le, ← Int64.toInt_inj, Int64.reduceToInt, Int32.toInt_toInt64, lg_cmp_ge, lg_cmp_le, lg_cmp_gt, lg_cmp_lt, lg_cmp_eq, Bool.false_eq_true, Bool.true_eq_false, reduceCtorEq, false_iff, true_iff, iff_true, iff_false, and_true, true_and, and_false, false_and, reduceIte, ite_true, ite_false, eq_self] at *)) <;> omega), trivial⟩ rfl
            · have mh9 := nle_mx h9
              refine wa_iload_n (i := 2) rfl rfl ?_
              refine wa_aload_n (i := 0) rfl rfl ?_
              refine wa_geti ck_9 fl_9_62 ly_60 ?_
              refine wa_rw (khi8_0) ?_
              refine wa_icmp_ge o_X9_mixOf_64 (by decide) (fun h11 => ?_) (fun h11 => ?_)
              · refine wa_iinc (v := (1)) (lv' := fun y12 => [(2, .int y12), (0, .ref 60), (1, .int a0), (3, .int l3)]) (by decide) rfl (by decide) (fun _ => rfl) (fun y12 hy12 => ?_)
                have ty12 := i_addT hy12.symm
                clear hy12
                refine wa_goto o_X9_mixOf_2 (by decide) ?_
                refine wa_pick [1, 2, 0] rfl ?_
                exact ih2 _ (by ((try simp only [vp_in_iff, Int32.lt_iff_toInt_lt, Int32.le_iff_toInt_le, ← Int32.toInt_inj, Int32.reduceToInt, n_1, n_2, n_8, Int32.toNatClampNeg, Int64.lt_iff_toInt_lt, Int64.le_iff_toInt_le, ← Int64.toInt_inj, Int64.reduceToInt, Int32.toInt_toInt64, lg_cmp_ge, lg_cmp_le, lg_cmp_gt, lg_cmp_lt, lg_cmp_eq, Bool.false_eq_true, Bool.true_eq_false, reduceCtorEq, false_iff, true_iff, iff_true, iff_false, and_true, true_and, and_false, false_and, reduceIte, ite_true, ite_false, eq_self] at *)) <;> omega) _ _ ⟨Fs6, (khi8_0), (by ((try simp only [vp_in_iff, Int32.lt_iff_toInt_lt, Int32.le_iff_toInt_le, ← Int32.toInt_inj, Int32.reduceToInt, n_1, n_2, n_8, Int32.toNatClampNeg, Int64.lt_iff_toInt_lt, Int64.le_iff_toInt_le, ← Int64.toInt_inj, Int64.reduceToInt, Int32.toInt_toInt64, lg_cmp_ge, lg_cmp_le, lg_cmp_gt, lg_cmp_lt, lg_cmp_eq, Bool.false_eq_true, Bool.true_eq_false, reduceCtorEq, false_iff, true_iff, iff_true, iff_false, and_true, true_and, and_false, false_and, reduceIte, ite_true, ite_false, eq_self] at *)) <;> omega), trivial⟩ rfl
              · have mh11 := nle_mx h11
                refine wa_aload_n (i := 0) rfl rfl ?_
                refine wa_getr ck_9 fl_9_25 ly_60 rf_60_4 ?_
                refine wa_iload_n (i := 2) rfl rfl ?_
                refine wa_dup2 rfl rfl ?_
                refine wa_lald ly_65 (by ((try simp only [vp_in_iff, Int32.lt_iff_toInt_lt, Int32.le_iff_toInt_le, ← Int32.toInt_inj, Int32.reduceToInt, n_1, n_2, n_8, Int32.toNatClampNeg, Int64.lt_iff_toInt_lt, Int64.le_iff_toInt_le, ← Int64.toInt_inj, Int64.reduceToInt, Int32.toInt_toInt64, lg_cmp_ge, lg_cmp_le, lg_cmp_gt, lg_cmp_lt, lg_cmp_eq, Bool.false_eq_true, Bool.true_eq_false, reduceCtorEq, false_iff, true_iff, iff_true, iff_false, and_true, true_and, and_false, false_and, reduceIte, ite_true, ite_false, eq_self] at *)) <;> omega) ?_
                refine wa_aload_n (i := 0) rfl rfl ?_
                refine wa_iload_n (i := 1) rfl rfl ?_
                refine wa_iload_n (i := 3) rfl rfl ?_
                refine wa_Vl (d9 := d - 1) [.int _, .int _] [.long (gl s6 65 (l2).toNatClampNeg), .int l2, .ref 65] (sp_X9_rowNumber G (d := d - 1) (by omega) s6 _ _) (rfl) rfl rfl (zr (by omega)) mk_X9_rowNumber ly_60 ml_9_99 (Nat.le_of_ble_eq_true rfl) (fun x14 s13 hs13 => ?_)
                obtain ⟨zs13, -⟩ := pL hs13
                subst zs13
                refine wa_aload_n (i := 0) rfl rfl ?_
                refine wa_getr ck_9 fl_9_22 ly_60 rf_60_3 ?_
                refine wa_iload_n (i := 2) rfl rfl ?_
                refine wa_iconst (v := 4) (by decide) ?_
                refine wa_imul ?_
                refine wa_top (fun v15 hv15 => ?_)
                have tv15 := i_mulT hv15
                clear hv15
                refine wa_iload_n (i := 3) rfl rfl ?_
                refine wa_iadd ?_
                refine wa_top (fun v16 hv16 => ?_)
                have tv16 := i_addT hv16
                clear hv16
                refine wa_lald ly_64 (by ((try simp only [vp_in_iff, Int32.lt_iff_toInt_lt, Int32.le_iff_toInt_le, ← Int32.toInt_inj, Int32.reduceToInt, n_1, n_2, n_8, Int32.toNatClampNeg, Int64.lt_iff_toInt_lt, Int64.le_iff_toInt_le, ← Int64.toInt_inj, Int64.reduceToInt, Int32.toInt_toInt64, lg_cmp_ge, lg_cmp_le, lg_cmp_gt, lg_cmp_lt, lg_cmp_eq, Bool.false_eq_true, Bool.true_eq_false, reduceCtorEq, false_iff, true_iff, iff_true, iff_false, and_true, true_and, and_false, false_and, reduceIte, ite_true, ite_false, eq_self] at *)) <;> omega) ?_
                refine wa_lmul ?_
                refine wa_topl (fun v17 hv17 => ?_)
                clear hv17
                refine wa_ladd ?_
                refine wa_topl (fun v18 hv18 => ?_)
                clear hv18
                refine wa_last ly_65 (by ((try simp only [vp_in_iff, Int32.lt_iff_toInt_lt, Int32.le_iff_toInt_le, ← Int32.toInt_inj, Int32.reduceToInt, n_1, n_2, n_8, Int32.toNatClampNeg, Int64.lt_iff_toInt_lt, Int64.le_iff_toInt_le, ← Int64.toInt_inj, Int64.reduceToInt, Int32.toInt_toInt64, lg_cmp_ge, lg_cmp_le, lg_cmp_gt, lg_cmp_lt, lg_cmp_eq, Bool.false_eq_true, Bool.true_eq_false, reduceCtorEq, false_iff, true_iff, iff_true, iff_false, and_true, true_and, and_false, false_and, reduceIte, ite_true, ite_false, eq_self] at *)) <;> omega) (fun s19 hs19 => ?_)
                have Fs19 : Sm 65 66 σ s19 := by rw [hs19]; exact Sm.sl Fs6 _ _ (by decide) (by decide)
                refine wa_iinc (v := (1)) (lv' := fun y20 => [(3, .int y20), (0, .ref 60), (1, .int a0), (2, .int l2)]) (by decide) rfl (by decide) (fun _ => rfl) (fun y20 hy20 => ?_)
                have ty20 := i_addT hy20.symm
                clear hy20
                refine wa_goto o_X9_mixOf_16 (by decide) ?_
                refine wa_pick [1, 2, 3, 0] rfl ?_
                exact ih7 _ (by ((try simp only [vp_in_iff, Int32.lt_iff_toInt_lt, Int32.le_iff_toInt_le, ← Int32.toInt_inj, Int32.reduceToInt, n_1, n_2, n_8, Int32.toNatClampNeg, Int64.lt_iff_toInt_lt, Int64.le_iff_toInt_le, ← Int64.toInt_inj, Int64.reduceToInt, Int32.toInt_toInt64, lg_cmp_ge, lg_cmp_le, lg_cmp_gt, lg_cmp_lt, lg_cmp_eq, Bool.false_eq_true, Bool.true_eq_false, reduceCtorEq, false_iff, true_iff, iff_true, iff_false, and_true, true_and, and_false, false_and, reduceIte, ite_true, ite_false, eq_self] at *)) <;> omega) _ _ ⟨Fs19, ((nx_gi_sl hs19).trans (khi8_0)), (by ((try simp only [vp_in_iff, Int32.lt_iff_toInt_lt, Int32.le_iff_toInt_le, ← Int32.toInt_inj, Int32.reduceToInt, n_1, n_2, n_8, Int32.toNatClampNeg, Int64.lt_iff_toInt_lt, Int64.le_iff_toInt_le, ← Int64.toInt_inj, Int64.reduceToInt, Int32.toInt_toInt64, lg_cmp_ge, lg_cmp_le, lg_cmp_gt, lg_cmp_lt, lg_cmp_eq, Bool.false_eq_true, Bool.true_eq_false, reduceCtorEq, false_iff, true_iff, iff_true, iff_false, and_true, true_and, and_false, false_and, reduceIte, ite_true, ite_false, eq_self] at *)) <;> omega), trivial⟩ rfl
        exact hi8 _ _ _ ⟨Fs5, ((nx_gi_sl hs5).trans (khi3_0)), (by ((try simp only [vp_in_iff, Int32.lt_iff_toInt_lt, Int32.le_iff_toInt_le, ← Int32.toInt_inj, Int32.reduceToInt, n_1, n_2, n_8, Int32.toNatClampNeg, Int64.lt_iff_toInt_lt, Int64.le_iff_toInt_le, ← Int64.toInt_inj, Int64.reduceToInt, Int32.toInt_toInt64, lg_cmp_ge, lg_cmp_le, lg_cmp_gt, lg_cmp_lt, lg_cmp_eq, Bool.false_eq_true, Bool.true_eq_false, reduceCtorEq, false_iff, true_iff, iff_true, iff_false, and_true, true_and, and_false, false_and, reduceIte, ite_true, ite_false, eq_self] at *)) <;> omega), trivial⟩ rfl
  exact hi3 _ _ _ ⟨(Sm.rf 65 66 σ), (rfl), (by ((try simp only [vp_in_iff, Int32.lt_iff_toInt_lt, Int32.le_iff_toInt_le, ← Int32.toInt_inj, Int32.reduceToInt, n_1, n_2, n_8, Int32.toNatClampNeg, Int64.lt_iff_toInt_lt, Int64.le_iff_toInt_le, ← Int64.toInt_inj, Int64.reduceToInt, Int32.toInt_toInt64, lg_cmp_ge, lg_cmp_le, lg_cmp_gt, lg_cmp_lt, lg_cmp_eq, Bool.false_eq_true, Bool.true_eq_false, reduceCtorEq, false_iff, true_iff, iff_true, iff_false, and_true, true_and, and_false, false_and, reduceIte, ite_true, ite_false, eq_self] at *)) <;> omega), trivial⟩ rfl
set_option maxHeartbeats 4000000 in
theorem sp_X9_goalOf (G : kG9) {d : Nat} (hd : 0 ≤ d) (σ : St) (a0 : Int32) (p1 : 0 ≤ a0.toInt ∧ a0.toInt < 4) (r1 : 0 ≤ (gi σ 60 12).toInt ∧ (gi σ 60 12).toInt ≤ 4) : Ct G M_X9_goalOf d [.ref 60, .int a0] σ (fun r σ' => ∃ x : Int64, r = some (.long x) ∧ σ = σ' ∧ True) := by
  refine wa_start (by decide) rfl (Nat.le_of_ble_eq_true rfl) (lv := [(0, .ref 60), (1, .int a0)]) rfl o_X9_goalOf_0 rfl ?_
  have ua0 := Int32.toInt_lt a0
  have wa0 := Int32.le_toInt a0
  refine wa_lconst (v := 0) (by decide) ?_
  refine wa_lstore_nD (lv' := [(2, .long 0), (0, .ref 60), (1, .int a0)]) (i := 2) rfl (by decide) rfl ?_
  refine wa_iconst (v := 0) (by decide) ?_
  refine wa_istoreD (lv' := [(4, .int 0), (2, .long 0), (0, .ref 60), (1, .int a0)]) (by decide) rfl ?_
  refine wa_pick [2, 3, 1, 0] rfl ?_
  have hi2 : ∀ (n9_5 : Nat) (l2 : Int64) (l4 : Int32), ((0 ≤ l4.toInt) ∧ (True)) → (2147483647 - l4.toInt).toNat = n9_5 → WA G M_X9_goalOf (ZM G M_X9_goalOf d (fun r σ' => ∃ x : Int64, r = some (.long x) ∧ σ = σ' ∧ True)) B_X9_goalOf_5 [(0, .ref 60), (1, .int a0), (2, .long l2), (4, .int l4)] [] σ := by
    intro n9_5
    induction n9_5 using Nat.strongRecOn with
    | _ n9_5 ih1 =>
      intro l2 l4  i9 m9_5
      obtain ⟨jhi2_0, -⟩ := i9
      have ul4 := Int32.toInt_lt l4
      have wl4 := Int32.le_toInt l4
      refine wa_iload rfl ?_
      refine wa_aload_n (i := 0) rfl rfl ?_
      refine wa_geti ck_9 fl_9_62 ly_60 ?_
      refine wa_icmp_ge o_X9_goalOf_42 (by decide) (fun h3 => ?_) (fun h3 => ?_)
      · refine wa_lload_n (i := 2) rfl rfl ?_
        refine wa_lreturn rfl rfl ?_
        exact ⟨_, rfl, rfl, trivial⟩
      · have mh3 := nle_mx h3
        refine wa_lload_n (i := 2) rfl rfl ?_
        refine wa_aload_n (i := 0) rfl rfl ?_
        refine wa_getr ck_9 fl_9_15 ly_60 rf_60_1 ?_
        refine wa_iload rfl ?_
        refine wa_lald ly_62 (by ((try simp only [vp_in_iff, Int32.lt_iff_toInt_lt, Int32.le_iff_toInt_le, ← Int32.toInt_inj, Int32.reduceToInt, n_1, n_2, n_8, Int32.toNatClampNeg, Int64.lt_iff_toInt_lt, Int64.le_iff_toInt_le, ← Int64.toInt_inj, Int64.reduceToInt, Int32.toInt_toInt64, lg_cmp_ge, lg_cmp_le, lg_cmp_gt, lg_cmp_lt, lg_cmp_eq, Bool.false_eq_true, Bool.true_eq_false, reduceCtorEq, false_iff, true_iff, iff_true, iff_false, and_true, true_and, and_false, false_and, reduceIte, ite_true, ite_false, eq_self] at *)) <;> omega) ?_
        refine wa_aload_n (i := 0) rfl rfl ?_
        refine wa_getr ck_9 fl_9_22 ly_60 rf_60_3 ?_
        refine wa_iload_n (i := 1) rfl rfl ?_
        refine wa_iconst (v := 4) (by decide) ?_
        refine wa_imul ?_
        refine wa_top (fun v4 hv4 => ?_)
        have tv4 := i_mulT hv4
        clear hv4
        refine wa_iload rfl ?_
        refine wa_iadd ?_
        refine wa_top (fun v5 hv5 => ?_)
        have tv5 := i_addT hv5
        clear hv5
        refine wa_lald ly_64 (by ((try simp only [vp_in_iff, Int32.lt_iff_toInt_lt, Int32.le_iff_toInt_le, ← Int32.toInt_inj, Int32.reduceToInt, n_1, n_2, n_8, Int32.toNatClampNeg, Int64.lt_iff_toInt_lt, Int64.le_iff_toInt_le, ← Int64.toInt_inj, Int64.reduceToInt, Int32.toInt_toInt64, lg_cmp_ge, lg_cmp_le, lg_cmp_gt, lg_cmp_lt, lg_cmp_eq, Bool.false_eq_true, Bool.true_eq_false, reduceCtorEq, false_iff, true_iff, iff_true, iff_false, and_true, true_and, and_false, false_and, reduceIte, ite_true, ite_false, eq_self] at *)) <;> omega) ?_
        refine wa_lmul ?_
        refine wa_topl (fun v6 hv6 => ?_)
        clear hv6
        refine wa_ladd ?_
        refine wa_topl (fun v7 hv7 => ?_)
        clear hv7
        refine wa_lstore_nD (lv' := [(2, .long v7), (0, .ref 60), (1, .int a0), (4, .int l4)]) (i := 2) rfl (by decide) rfl ?_
        refine wa_iinc (v := (1)) (lv' := fun y8 => [(4, .int y8), (2, .long v7), (0, .ref 60), (1, .int a0)]) (by decide) rfl (by decide) (fun _ => rfl) (fun y8 hy8 => ?_)
        have ty8 := i_addT hy8.symm
        clear hy8
        refine wa_goto o_X9_goalOf_5 (by decide) ?_
        refine wa_pick [2, 3, 1, 0] rfl ?_
        exact ih1 _ (by ((try simp only [vp_in_iff, Int32.lt_iff_toInt_lt, Int32.le_iff_toInt_le, ← Int32.toInt_inj, Int32.reduceToInt, n_1, n_2, n_8, Int32.toNatClampNeg, Int64.lt_iff_toInt_lt, Int64.le_iff_toInt_le, ← Int64.toInt_inj, Int64.reduceToInt, Int32.toInt_toInt64, lg_cmp_ge, lg_cmp_le, lg_cmp_gt, lg_cmp_lt, lg_cmp_eq, Bool.false_eq_true, Bool.true_eq_false, reduceCtorEq, false_iff, true_iff, iff_true, iff_false, and_true, true_and, and_false, false_and, reduceIte, ite_true, ite_false, eq_self] at *)) <;> omega) _ _ ⟨(by ((try simp only [vp_in_iff, Int32.lt_iff_toInt_lt, Int32.le_iff_toInt_le, ← Int32.toInt_inj, Int32.reduceToInt, n_1, n_2, n_8, Int32.toNatClampNeg, Int64.lt_iff_toInt_lt, Int64.le_iff_toInt_le, ← Int64.toInt_inj, Int64.reduceToInt, Int32.toInt_toInt64, lg_cmp_ge, lg_cmp_le, lg_cmp_gt, lg_cmp_lt, lg_cmp_eq, Bool.false_eq_true, Bool.true_eq_false, reduceCtorEq, false_iff, true_iff, iff_true, iff_false, and_true, true_and, and_false, false_and, reduceIte, ite_true, ite_false, eq_self] at *)) <;> omega), trivial⟩ rfl
  exact hi2 _ _ _ ⟨(by ((try simp only [vp_in_iff, Int32.lt_iff_toInt_lt, Int32.le_iff_toInt_le, ← Int32.toInt_inj, Int32.reduceToInt, n_1, n_2, n_8, Int32.toNatClampNeg, Int64.lt_iff_toInt_lt, Int64.le_iff_toInt_le, ← Int64.toInt_inj, Int64.reduceToInt, Int32.toInt_toInt64, lg_cmp_ge, lg_cmp_le, lg_cmp_gt, lg_cmp_lt, lg_cmp_eq, Bool.false_eq_true, Bool.true_eq_false, reduceCtorEq, false_iff, true_iff, iff_true, iff_false, and_true, true_and, and_false, false_and, reduceIte, ite_true, ite_false, eq_self] at *)) <;> omega), trivial⟩ rfl
set_option maxHeartbeats 4000000 in
theorem sp_X9_crossSign (G : kG9) {d : Nat} (hd : 1 ≤ d) (σ : St) (a0 : Int64) (a1 : Int64) (a2 : Int64) (a3 : Int64) : Ct G M_X9_crossSign d [.long a0, .long a1, .long a2, .long a3] σ (fun r σ' => ∃ x : Int32, r = some (.int x) ∧ σ = σ' ∧ True) := by
  refine wa_start (by decide) rfl (Nat.le_of_ble_eq_true rfl) (lv := [(0, .long a0), (2, .long a1), (4, .long a2), (6, .long a3)]) rfl o_X9_crossSign_0 rfl ?_
  refine wa_ldc2 (v := (1048575)) (allW_in (kT_7 _ (List.mem_of_getElem? (i := 222) rfl)) rfl) ?_
  refine wa_lstoreD (lv' := [(8, .long (1048575)), (0, .long a0), (2, .long a1), (4, .long a2), (6, .long a3)]) (by decide) rfl ?_
  refine wa_lload_n (i := 0) rfl rfl ?_
  refine wa_lload_n (i := 2) rfl rfl ?_
  refine wa_bipush (v := 20) (by decide) ?_
  refine wa_lshr ?_
  refine wa_topl (fun v1 hv1 => ?_)
  clear hv1
  refine wa_lmul ?_
  refine wa_topl (fun v2 hv2 => ?_)
  clear hv2
  refine wa_lload rfl ?_
  refine wa_lload rfl ?_
  refine wa_bipush (v := 20) (by decide) ?_
  refine wa_lshr ?_
  refine wa_topl (fun v3 hv3 => ?_)
  clear hv3
  refine wa_lmul ?_
  refine wa_topl (fun v4 hv4 => ?_)
  clear hv4
  refine wa_lsub ?_
  refine wa_topl (fun v5 hv5 => ?_)
  clear hv5
  refine wa_lstoreD (lv' := [(10, .long v5), (8, .long (1048575)), (0, .long a0), (2, .long a1), (4, .long a2), (6, .long a3)]) (by decide) rfl ?_
  refine wa_lload_n (i := 0) rfl rfl ?_
  refine wa_lload_n (i := 2) rfl rfl ?_
  refine wa_lload rfl ?_
  refine wa_land ?_
  refine wa_topl (fun v6 hv6 => ?_)
  clear hv6
  refine wa_lmul ?_
  refine wa_topl (fun v7 hv7 => ?_)
  clear hv7
  refine wa_lload rfl ?_
  refine wa_lload rfl ?_
  refine wa_lload rfl ?_
  refine wa_land ?_
  refine wa_topl (fun v8 hv8 => ?_)
  clear hv8
  refine wa_lmul ?_
  refine wa_topl (fun v9 hv9 => ?_)
  clear hv9
  refine wa_lsub ?_
  refine wa_topl (fun v10 hv10 => ?_)
  clear hv10
  refine wa_lstoreD (lv' := [(12, .long v10), (10, .long v5), (8, .long (1048575)), (0, .long a0), (2, .long a1), (4, .long a2), (6, .long a3)]) (by decide) rfl ?_
  refine wa_lload rfl ?_
  refine wa_lload rfl ?_
  refine wa_bipush (v := 20) (by decide) ?_
  refine wa_lshr ?_
  refine wa_topl (fun v11 hv11 => ?_)
  clear hv11
  refine wa_ladd ?_
  refine wa_topl (fun v12 hv12 => ?_)
  clear hv12
  refine wa_lload rfl ?_
  refine wa_lload rfl ?_
  refine wa_land ?_
  refine wa_topl (fun v13 hv13 => ?_)
  clear hv13
  refine wa_Si (d9 := d - 1) [.long _, .long _] [] (sp_X9_signOf G (d := d - 1) (by omega) σ _ _) (rfl) rfl rfl (zr (by omega)) mk_X9_signOf ml_9_159 (Nat.le_of_ble_eq_true rfl) (fun x15 s14 hs14 => ?_)
  obtain ⟨zs14, -⟩ := pI hs14
  subst zs14
  refine wa_ireturn rfl rfl ?_
  exact ⟨_, rfl, rfl, trivial⟩
set_option maxHeartbeats 4000000 in
theorem sp_X9_isBefore (G : kG9) {d : Nat} (hd : 2 ≤ d) (σ : St) (a0 : Int32) (a1 : Int32) (p1 : 0 ≤ a0.toInt ∧ a0.toInt < 4) (p2 : 0 ≤ a1.toInt ∧ a1.toInt < 4) (r1 : 0 ≤ (gi σ 60 12).toInt ∧ (gi σ 60 12).toInt ≤ 4) : Ct G M_X9_isBefore d [.ref 60, .int a0, .int a1] σ (fun r σ' => ∃ x : Bool, r = some (.int (bI x)) ∧ σ = σ' ∧ True) := by
  refine wa_start (by decide) rfl (Nat.le_of_ble_eq_true rfl) (lv := [(0, .ref 60), (1, .int a0), (2, .int a1)]) rfl o_X9_isBefore_0 rfl ?_
  have ua0 := Int32.toInt_lt a0
  have wa0 := Int32.le_toInt a0
  have ua1 := Int32.toInt_lt a1
  have wa1 := Int32.le_toInt a1
  refine wa_aload_n (i := 0) rfl rfl ?_
  refine wa_iload_n (i := 1) rfl rfl ?_
  refine wa_Vl (d9 := d - 1) [.int _] [] (sp_X9_goalOf G (d := d - 1) (by omega) σ _ (by ((try simp only [vp_in_iff, Int32.lt_iff_toInt_lt, Int32.le_iff_toInt_le, ← Int32.toInt_inj, Int32.reduceToInt, n_1, n_2, n_8, Int32.toNatClampNeg, Int64.lt_iff_toInt_lt, Int64.le_iff_toInt_le, ← Int64.toInt_inj, Int64.reduceToInt, Int32.toInt_toInt64, lg_cmp_ge, lg_cmp_le, lg_cmp_gt, lg_cmp_lt, lg_cmp_eq, Bool.false_eq_true, Bool.true_eq_false, reduceCtorEq, false_iff, true_iff, iff_true, iff_false, and_true, true_and, and_false, false_and, reduceIte, ite_true, ite_false, eq_self] at *)) <;> omega) (by first | assumption | exact Or.inl rfl | exact Or.inr rfl | (((try simp only [vp_in_iff, Int32.lt_iff_toInt_lt, Int32.le_iff_toInt_le, ← Int32.toInt_inj, Int32.reduceToInt, n_1, n_2, n_8, Int32.toNatClampNeg, Int64.lt_iff_toInt_lt, Int64.le_iff_toInt_le, ← Int64.toInt_inj, Int64.reduceToInt, Int32.toInt_toInt64, lg_cmp_ge, lg_cmp_le, lg_cmp_gt, lg_cmp_lt, lg_cmp_eq, Bool.false_eq_true, Bool.true_eq_false, reduceCtorEq, false_iff, true_iff, iff_true, iff_false, and_true, true_and, and_false, false_and, reduceIte, ite_true, ite_false, eq_self] at *)) <;> omega))) (rfl) rfl rfl (zr (by omega)) mk_X9_goalOf ly_60 ml_9_168 (Nat.le_of_ble_eq_true rfl) (fun x2 s1 hs1 => ?_)
  obtain ⟨zs1, -⟩ := pL hs1
  subst zs1
  refine wa_aload_n (i := 0) rfl rfl ?_
  refine wa_getr ck_9 fl_9_25 ly_60 rf_60_4 ?_
  refine wa_iload_n (i := 2) rfl rfl ?_
  refine wa_lald ly_65 (by ((try simp only [vp_in_iff, Int32.lt_iff_toInt_lt, Int32.le_iff_toInt_le, ← Int32.toInt_inj, Int32.reduceToInt, n_1, n_2, n_8, Int32.toNatClampNeg, Int64.lt_iff_toInt_lt, Int64.le_iff_toInt_le, ← Int64.toInt_inj, Int64.reduceToInt, Int32.toInt_toInt64, lg_cmp_ge, lg_cmp_le, lg_cmp_gt, lg_cmp_lt, lg_cmp_eq, Bool.false_eq_true, Bool.true_eq_false, reduceCtorEq, false_iff, true_iff, iff_true, iff_false, and_true, true_and, and_false, false_and, reduceIte, ite_true, ite_false, eq_self] at *)) <;> omega) ?_
  refine wa_aload_n (i := 0) rfl rfl ?_
  refine wa_iload_n (i := 2) rfl rfl ?_
  refine wa_Vl (d9 := d - 1) [.int _] [.long (gl σ 65 (a1).toNatClampNeg), .long x2] (sp_X9_goalOf G (d := d - 1) (by omega) σ _ (by ((try simp only [vp_in_iff, Int32.lt_iff_toInt_lt, Int32.le_iff_toInt_le, ← Int32.toInt_inj, Int32.reduceToInt, n_1, n_2, n_8, Int32.toNatClampNeg, Int64.lt_iff_toInt_lt, Int64.le_iff_toInt_le, ← Int64.toInt_inj, Int64.reduceToInt, Int32.toInt_toInt64, lg_cmp_ge, lg_cmp_le, lg_cmp_gt, lg_cmp_lt, lg_cmp_eq, Bool.false_eq_true, Bool.true_eq_false, reduceCtorEq, false_iff, true_iff, iff_true, iff_false, and_true, true_and, and_false, false_and, reduceIte, ite_true, ite_false, eq_self] at *)) <;> omega) (by first | assumption | exact Or.inl rfl | exact Or.inr rfl | (((try simp only [vp_in_iff, Int32.lt_iff_toInt_lt, Int32.le_iff_toInt_le, ← Int32.toInt_inj, Int32.reduceToInt, n_1, n_2, n_8, Int32.toNatClampNeg, Int64.lt_iff_toInt_lt, Int64.le_iff_toInt_le, ← Int64.toInt_inj, Int64.reduceToInt, Int32.toInt_toInt64, lg_cmp_ge, lg_cmp_le, lg_cmp_gt, lg_cmp_lt, lg_cmp_eq, Bool.false_eq_true, Bool.true_eq_false, reduceCtorEq, false_iff, true_iff, iff_true, iff_false, and_true, true_and, and_false, false_and, reduceIte, ite_true, ite_false, eq_self] at *)) <;> omega))) (rfl) rfl rfl (zr (by omega)) mk_X9_goalOf ly_60 ml_9_168 (Nat.le_of_ble_eq_true rfl) (fun x4 s3 hs3 => ?_)
  obtain ⟨zs3, -⟩ := pL hs3
  subst zs3
  refine wa_aload_n (i := 0) rfl rfl ?_
  refine wa_getr ck_9 fl_9_25 ly_60 rf_60_4 ?_
  refine wa_iload_n (i := 1) rfl rfl ?_
  refine wa_lald ly_65 (by ((try simp only [vp_in_iff, Int32.lt_iff_toInt_lt, Int32.le_iff_toInt_le, ← Int32.toInt_inj, Int32.reduceToInt, n_1, n_2, n_8, Int32.toNatClampNeg, Int64.lt_iff_toInt_lt, Int64.le_iff_toInt_le, ← Int64.toInt_inj, Int64.reduceToInt, Int32.toInt_toInt64, lg_cmp_ge, lg_cmp_le, lg_cmp_gt, lg_cmp_lt, lg_cmp_eq, Bool.false_eq_true, Bool.true_eq_false, reduceCtorEq, false_iff, true_iff, iff_true, iff_false, and_true, true_and, and_false, false_and, reduceIte, ite_true, ite_false, eq_self] at *)) <;> omega) ?_
  refine wa_Si (d9 := d - 1) [.long _, .long _, .long _, .long _] [] (sp_X9_crossSign G (d := d - 1) (by omega) σ _ _ _ _) (rfl) rfl rfl (zr (by omega)) mk_X9_crossSign ml_9_172 (Nat.le_of_ble_eq_true rfl) (fun x6 s5 hs5 => ?_)
  obtain ⟨zs5, -⟩ := pI hs5
  subst zs5
  refine wa_istore_nD (lv' := [(3, .int x6), (0, .ref 60), (1, .int a0), (2, .int a1)]) (i := 3) rfl (by decide) rfl ?_
  refine wa_iconst (v := 0) (by decide) ?_
  refine wa_istoreD (lv' := [(4, .int 0), (3, .int x6), (0, .ref 60), (1, .int a0), (2, .int a1)]) (by decide) rfl ?_
  refine wa_pick [2, 3, 4, 1, 0] rfl ?_
  have hi8 : ∀ (n9_29 : Nat) (l3 : Int32) (l4 : Int32), ((0 ≤ l4.toInt) ∧ (True)) → (2147483647 - l4.toInt).toNat = n9_29 → WA G M_X9_isBefore (ZM G M_X9_isBefore d (fun r σ' => ∃ x : Bool, r = some (.int (bI x)) ∧ σ = σ' ∧ True)) B_X9_isBefore_29 [(0, .ref 60), (1, .int a0), (2, .int a1), (3, .int l3), (4, .int l4)] [] σ := by
    intro n9_29
    induction n9_29 using Nat.strongRecOn with
    | _ n9_29 ih7 =>
      intro l3 l4  i9 m9_29
      obtain ⟨jhi8_0, -⟩ := i9
      have ul3 := Int32.toInt_lt l3
      have wl3 := Int32.le_toInt l3
      have ul4 := Int32.toInt_lt l4
      have wl4 := Int32.le_toInt l4
      refine wa_iload rfl ?_
      refine wa_aload_n (i := 0) rfl rfl ?_
      refine wa_geti ck_9 fl_9_62 ly_60 ?_
      refine wa_icmp_ge o_X9_isBefore_88 (by decide) (fun h9 => ?_) (fun h9 => ?_)
      · refine wa_iload_n (i := 3) rfl rfl ?_
        refine wa_if_ge o_X9_isBefore_96 (by decide) (fun h10 => ?_) (fun h10 => ?_)
        · refine wa_iconst (v := 0) (by decide) ?_
          refine wa_zreturn false (rfl) rfl rfl ?_
          exact ⟨_, rfl, rfl, trivial⟩
        · refine wa_iconst (v := 1) (by decide) ?_
          refine wa_goto o_X9_isBefore_97 (by decide) ?_
          refine wa_zreturn true (rfl) rfl rfl ?_
          exact ⟨_, rfl, rfl, trivial⟩
      · have mh9 := nle_mx h9
        refine wa_iload_n (i := 3) rfl rfl ?_
        refine wa_if_ne o_X9_isBefore_88 (by decide) (fun h11 => ?_) (fun h11 => ?_)
        · refine wa_iload_n (i := 3) rfl rfl ?_
          refine wa_if_ge o_X9_isBefore_96 (by decide) (fun h12 => ?_) (fun h12 => ?_)
          · refine wa_iconst (v := 0) (by decide) ?_
            refine wa_zreturn false (rfl) rfl rfl ?_
            exact ⟨_, rfl, rfl, trivial⟩
          · refine wa_iconst (v := 1) (by decide) ?_
            refine wa_goto o_X9_isBefore_97 (by decide) ?_
            refine wa_zreturn true (rfl) rfl rfl ?_
            exact ⟨_, rfl, rfl, trivial⟩
        · refine wa_aload_n (i := 0) rfl rfl ?_
          refine wa_getr ck_9 fl_9_22 ly_60 rf_60_3 ?_
          refine wa_iload_n (i := 1) rfl rfl ?_
          refine wa_iconst (v := 4) (by decide) ?_
          refine wa_imul ?_
          refine wa_top (fun v13 hv13 => ?_)
          have tv13 := i_mulT hv13
          clear hv13
          refine wa_iload rfl ?_
          refine wa_iadd ?_
          refine wa_top (fun v14 hv14 => ?_)
          have tv14 := i_addT hv14
          clear hv14
          refine wa_lald ly_64 (by ((try simp only [vp_in_iff, Int32.lt_iff_toInt_lt, Int32.le_iff_toInt_le, ← Int32.toInt_inj, Int32.reduceToInt, n_1, n_2, n_8, Int32.toNatClampNeg, Int64.lt_iff_toInt_lt, Int64.le_iff_toInt_le, ← Int64.toInt_inj, Int64.reduceToInt, Int32.toInt_toInt64, lg_cmp_ge, lg_cmp_le, lg_cmp_gt, lg_cmp_lt, lg_cmp_eq, Bool.false_eq_true, Bool.true_eq_false, reduceCtorEq, false_iff, true_iff, iff_true, iff_false, and_true, true_and, and_false, false_and, reduceIte, ite_true, ite_false, eq_self] at *)) <;> omega) ?_
          refine wa_lneg ?_
          refine wa_topl (fun v15 hv15 => ?_)
          clear hv15
          refine wa_aload_n (i := 0) rfl rfl ?_
          refine wa_getr ck_9 fl_9_25 ly_60 rf_60_4 ?_
          refine wa_iload_n (i := 2) rfl rfl ?_
          refine wa_lald ly_65 (by ((try simp only [vp_in_iff, Int32.lt_iff_toInt_lt, Int32.le_iff_toInt_le, ← Int32.toInt_inj, Int32.reduceToInt, n_1, n_2, n_8, Int32.toNatClampNeg, Int64.lt_iff_toInt_lt, Int64.le_iff_toInt_le, ← Int64.toInt_inj, Int64.reduceToInt, Int32.toInt_toInt64, lg_cmp_ge, lg_cmp_le, lg_cmp_gt, lg_cmp_lt, lg_cmp_eq, Bool.false_eq_true, Bool.true_eq_false, reduceCtorEq, false_iff, true_iff, iff_true, iff_false, and_true, true_and, and_false, false_and, reduceIte, ite_true, ite_false, eq_self] at *)) <;> omega) ?_
          refine wa_aload_n (i := 0) rfl rfl ?_
          refine wa_getr ck_9 fl_9_22 ly_60 rf_60_3 ?_
          refine wa_iload_n (i := 2) rfl rfl ?_
          refine wa_iconst (v := 4) (by decide) ?_
          refine wa_imul ?_
          refine wa_top (fun v16 hv16 => ?_)
          have tv16 := i_mulT hv16
          clear hv16
          refine wa_iload rfl ?_
          refine wa_iadd ?_
          refine wa_top (fun v17 hv17 => ?_)
          have tv17 := i_addT hv17
          clear hv17
          refine wa_lald ly_64 (by ((try simp only [vp_in_iff, Int32.lt_iff_toInt_lt, Int32.le_iff_toInt_le, ← Int32.toInt_inj, Int32.reduceToInt, n_1, n_2, n_8, Int32.toNatClampNeg, Int64.lt_iff_toInt_lt, Int64.le_iff_toInt_le, ← Int64.toInt_inj, Int64.reduceToInt, Int32.toInt_toInt64, lg_cmp_ge, lg_cmp_le, lg_cmp_gt, lg_cmp_lt, lg_cmp_eq, Bool.false_eq_true, Bool.true_eq_false, reduceCtorEq, false_iff, true_iff, iff_true, iff_false, and_true, true_and, and_false, false_and, reduceIte, ite_true, ite_false, eq_self] at *)) <;> omega) ?_
          refine wa_lneg ?_
          refine wa_topl (fun v18 hv18 => ?_)
          clear hv18
          refine wa_aload_n (i := 0) rfl rfl ?_
          refine wa_getr ck_9 fl_9_25 ly_60 rf_60_4 ?_
          refine wa_iload_n (i := 1) rfl rfl ?_
          refine wa_lald ly_65 (by ((try simp only [vp_in_iff, Int32.lt_iff_toInt_lt, Int32.le_iff_toInt_le, ← Int32.toInt_inj, Int32.reduceToInt, n_1, n_2, n_8, Int32.toNatClampNeg, Int64.lt_iff_toInt_lt, Int64.le_iff_toInt_le, ← Int64.toInt_inj, Int64.reduceToInt, Int32.toInt_toInt64, lg_cmp_ge, lg_cmp_le, lg_cmp_gt, lg_cmp_lt, lg_cmp_eq, Bool.false_eq_true, Bool.true_eq_false, reduceCtorEq, false_iff, true_iff, iff_true, iff_false, and_true, true_and, and_false, false_and, reduceIte, ite_true, ite_false, eq_self] at *)) <;> omega) ?_
          refine wa_Si (d9 := d - 1) [.long _, .long _, .long _, .long _] [] (sp_X9_crossSign G (d := d - 1) (by omega) σ _ _ _ _) (rfl) rfl rfl (zr (by omega)) mk_X9_crossSign ml_9_172 (Nat.le_of_ble_eq_true rfl) (fun x20 s19 hs19 => ?_)
          obtain ⟨zs19, -⟩ := pI hs19
          subst zs19
          refine wa_istore_nD (lv' := [(3, .int x20), (0, .ref 60), (1, .int a0), (2, .int a1), (4, .int l4)]) (i := 3) rfl (by decide) rfl ?_
          refine wa_iinc (v := (1)) (lv' := fun y21 => [(4, .int y21), (3, .int x20), (0, .ref 60), (1, .int a0), (2, .int a1)]) (by decide) rfl (by decide) (fun _ => rfl) (fun y21 hy21 => ?_)
          have ty21 := i_addT hy21.symm
          clear hy21
          refine wa_goto o_X9_isBefore_29 (by decide) ?_
          refine wa_pick [2, 3, 4, 1, 0] rfl ?_
          exact ih7 _ (by ((try simp only [vp_in_iff, Int32.lt_iff_toInt_lt, Int32.le_iff_toInt_le, ← Int32.toInt_inj, Int32.reduceToInt, n_1, n_2, n_8, Int32.toNatClampNeg, Int64.lt_iff_toInt_lt, Int64.le_iff_toInt_le, ← Int64.toInt_inj, Int64.reduceToInt, Int32.toInt_toInt64, lg_cmp_ge, lg_cmp_le, lg_cmp_gt, lg_cmp_lt, lg_cmp_eq, Bool.false_eq_true, Bool.true_eq_false, reduceCtorEq, false_iff, true_iff, iff_true, iff_false, and_true, true_and, and_false, false_and, reduceIte, ite_true, ite_false, eq_self] at *)) <;> omega) _ _ ⟨(by ((try simp only [vp_in_iff, Int32.lt_iff_toInt_lt, Int32.le_iff_toInt_le, ← Int32.toInt_inj, Int32.reduceToInt, n_1, n_2, n_8, Int32.toNatClampNeg, Int64.lt_iff_toInt_lt, Int64.le_iff_toInt_le, ← Int64.toInt_inj, Int64.reduceToInt, Int32.toInt_toInt64, lg_cmp_ge, lg_cmp_le, lg_cmp_gt, lg_cmp_lt, lg_cmp_eq, Bool.false_eq_true, Bool.true_eq_false, reduceCtorEq, false_iff, true_iff, iff_true, iff_false, and_true, true_and, and_false, false_and, reduceIte, ite_true, ite_false, eq_self] at *)) <;> omega), trivial⟩ rfl
  exact hi8 _ _ _ ⟨(by ((try simp only [vp_in_iff, Int32.lt_iff_toInt_lt, Int32.le_iff_toInt_le, ← Int32.toInt_inj, Int32.reduceToInt, n_1, n_2, n_8, Int32.toNatClampNeg, Int64.lt_iff_toInt_lt, Int64.le_iff_toInt_le, ← Int64.toInt_inj, Int64.reduceToInt, Int32.toInt_toInt64, lg_cmp_ge, lg_cmp_le, lg_cmp_gt, lg_cmp_lt, lg_cmp_eq, Bool.false_eq_true, Bool.true_eq_false, reduceCtorEq, false_iff, true_iff, iff_true, iff_false, and_true, true_and, and_false, false_and, reduceIte, ite_true, ite_false, eq_self] at *)) <;> omega), trivial⟩ rfl
set_option maxHeartbeats 4000000 in
theorem sp_X9_leaving (G : kG9) {d : Nat} (hd : 3 ≤ d) (σ : St) (r1 : 0 ≤ (gi σ 60 12).toInt ∧ (gi σ 60 12).toInt ≤ 4) : Ct G M_X9_leaving d [.ref 60] σ (fun r σ' => ∃ x : Int32, r = some (.int x) ∧ σ = σ' ∧ (-1 ≤ x.toInt ∧ x.toInt < 4) ∧ True) := by
  refine wa_start (by decide) rfl (Nat.le_of_ble_eq_true rfl) (lv := [(0, .ref 60)]) rfl o_X9_leaving_0 rfl ?_
  refine wa_iconst (v := (-1)) (by decide) ?_
  refine wa_istore_nD (lv' := [(1, .int (-1)), (0, .ref 60)]) (i := 1) rfl (by decide) rfl ?_
  refine wa_iconst (v := 0) (by decide) ?_
  refine wa_istore_nD (lv' := [(2, .int 0), (1, .int (-1)), (0, .ref 60)]) (i := 2) rfl (by decide) rfl ?_
  refine wa_pick [2, 1, 0] rfl ?_
  have hi2 : ∀ (n9_4 : Nat) (l1 : Int32) (l2 : Int32), ((0 ≤ l2.toInt) ∧ (-1 ≤ l1.toInt ∧ l1.toInt < 4) ∧ (True)) → (2147483647 - l2.toInt).toNat = n9_4 → WA G M_X9_leaving (ZM G M_X9_leaving d (fun r σ' => ∃ x : Int32, r = some (.int x) ∧ σ = σ' ∧ (-1 ≤ x.toInt ∧ x.toInt < 4) ∧ True)) B_X9_leaving_4 [(0, .ref 60), (1, .int l1), (2, .int l2)] [] σ := by
    intro n9_4
    induction n9_4 using Nat.strongRecOn with
    | _ n9_4 ih1 =>
      intro l1 l2  i9 m9_4
      obtain ⟨jhi2_0, jhi2_1, -⟩ := i9
      have ul1 := Int32.toInt_lt l1
      have wl1 := Int32.le_toInt l1
      have ul2 := Int32.toInt_lt l2
      have wl2 := Int32.le_toInt l2
      refine wa_iload_n (i := 2) rfl rfl ?_
      refine wa_aload_n (i := 0) rfl rfl ?_
      refine wa_geti ck_9 fl_9_62 ly_60 ?_
      refine wa_icmp_ge o_X9_leaving_45 (by decide) (fun h3 => ?_) (fun h3 => ?_)
      · refine wa_iload_n (i := 1) rfl rfl ?_
        refine wa_ireturn rfl rfl ?_
        exact ⟨_, rfl, rfl, (by ((try simp only [vp_in_iff, Int32.lt_iff_toInt_lt, Int32.le_iff_toInt_le, ← Int32.toInt_inj, Int32.reduceToInt, n_1, n_2, n_8, Int32.toNatClampNeg, Int64.lt_iff_toInt_lt, Int64.le_iff_toInt_le, ← Int64.toInt_inj, Int64.reduceToInt, Int32.toInt_toInt64, lg_cmp_ge, lg_cmp_le, lg_cmp_gt, lg_cmp_lt, lg_cmp_eq, Bool.false_eq_true, Bool.true_eq_false, reduceCtorEq, false_iff, true_iff, iff_true, iff_false, and_true, true_and, and_false, false_and, reduceIte, ite_true, ite_false, eq_self] at *)) <;> omega), trivial⟩
      · have mh3 := nle_mx h3
        refine wa_aload_n (i := 0) rfl rfl ?_
        refine wa_getr ck_9 fl_9_25 ly_60 rf_60_4 ?_
        refine wa_iload_n (i := 2) rfl rfl ?_
        refine wa_lald ly_65 (by ((try simp only [vp_in_iff, Int32.lt_iff_toInt_lt, Int32.le_iff_toInt_le, ← Int32.toInt_inj, Int32.reduceToInt, n_1, n_2, n_8, Int32.toNatClampNeg, Int64.lt_iff_toInt_lt, Int64.le_iff_toInt_le, ← Int64.toInt_inj, Int64.reduceToInt, Int32.toInt_toInt64, lg_cmp_ge, lg_cmp_le, lg_cmp_gt, lg_cmp_lt, lg_cmp_eq, Bool.false_eq_true, Bool.true_eq_false, reduceCtorEq, false_iff, true_iff, iff_true, iff_false, and_true, true_and, and_false, false_and, reduceIte, ite_true, ite_false, eq_self] at *)) <;> omega) ?_
        refine wa_lconst (v := 0) (by decide) ?_
        refine wa_lcmp ?_
        refine wa_top (fun v4 hv4 => ?_)
        have tv4 := i_cmpT hv4
        clear hv4
        refine wa_if_le o_X9_leaving_39 (by decide) (fun h5 => ?_) (fun h5 => ?_)
        · refine wa_iinc (v := (1)) (lv' := fun y6 => [(2, .int y6), (0, .ref 60), (1, .int l1)]) (by decide) rfl (by decide) (fun _ => rfl) (fun y6 hy6 => ?_)
          have ty6 := i_addT hy6.symm
          clear hy6
          refine wa_goto o_X9_leaving_4 (by decide) ?_
          refine wa_pick [1, 2, 0] rfl ?_
          exact ih1 _ (by ((try simp only [vp_in_iff, Int32.lt_iff_toInt_lt, Int32.le_iff_toInt_le, ← Int32.toInt_inj, Int32.reduceToInt, n_1, n_2, n_8, Int32.toNatClampNeg, Int64.lt_iff_toInt_lt, Int64.le_iff_toInt_le, ← Int64.toInt_inj, Int64.reduceToInt, Int32.toInt_toInt64, lg_cmp_ge, lg_cmp_le, lg_cmp_gt, lg_cmp_lt, lg_cmp_eq, Bool.false_eq_true, Bool.true_eq_false, reduceCtorEq, false_iff, true_iff, iff_true, iff_false, and_true, true_and, and_false, false_and, reduceIte, ite_true, ite_false, eq_self] at *)) <;> omega) _ _ ⟨(by ((try simp only [vp_in_iff, Int32.lt_iff_toInt_lt, Int32.le_iff_toInt_le, ← Int32.toInt_inj, Int32.reduceToInt, n_1, n_2, n_8, Int32.toNatClampNeg, Int64.lt_iff_toInt_lt, Int64.le_iff_toInt_le, ← Int64.toInt_inj, Int64.reduceToInt, Int32.toInt_toInt64, lg_cmp_ge, lg_cmp_le, lg_cmp_gt, lg_cmp_lt, lg_cmp_eq, Bool.false_eq_true, Bool.true_eq_false, reduceCtorEq, false_iff, true_iff, iff_true, iff_false, and_true, true_and, and_false, false_and, reduceIte, ite_true, ite_false, eq_self] at *)) <;> omega), (by ((try simp only [vp_in_iff, Int32.lt_iff_toInt_lt, Int32.le_iff_toInt_le, ← Int32.toInt_inj, Int32.reduceToInt, n_1, n_2, n_8, Int32.toNatClampNeg, Int64.lt_iff_toInt_lt, Int64.le_iff_toInt_le, ← Int64.toInt_inj, Int64.reduceToInt, Int32.toInt_toInt64, lg_cmp_ge, lg_cmp_le, lg_cmp_gt, lg_cmp_lt, lg_cmp_eq, Bool.false_eq_true, Bool.true_eq_false, reduceCtorEq, false_iff, true_iff, iff_true, iff_false, and_true, true_and, and_false, false_and, reduceIte, ite_true, ite_false, eq_self] at *)) <;> omega), trivial⟩ rfl
        · refine wa_iload_n (i := 1) rfl rfl ?_
          refine wa_iconst (v := (-1)) (by decide) ?_
          refine wa_icmp_eq o_X9_leaving_37 (by decide) (fun h7 => ?_) (fun h7 => ?_)
          · refine wa_iload_n (i := 2) rfl rfl ?_
            refine wa_istore_nD (lv' := [(1, .int l2), (0, .ref 60), (2, .int l2)]) (i := 1) rfl (by decide) rfl ?_
            refine wa_iinc (v := (1)) (lv' := fun y8 => [(2, .int y8), (1, .int l2), (0, .ref 60)]) (by decide) rfl (by decide) (fun _ => rfl) (fun y8 hy8 => ?_)
            have ty8 := i_addT hy8.symm
            clear hy8
            refine wa_goto o_X9_leaving_4 (by decide) ?_
            refine wa_pick [2, 1, 0] rfl ?_
            exact ih1 _ (by ((try simp only [vp_in_iff, Int32.lt_iff_toInt_lt, Int32.le_iff_toInt_le, ← Int32.toInt_inj, Int32.reduceToInt, n_1, n_2, n_8, Int32.toNatClampNeg, Int64.lt_iff_toInt_lt, Int64.le_iff_toInt_le, ← Int64.toInt_inj, Int64.reduceToInt, Int32.toInt_toInt64, lg_cmp_ge, lg_cmp_le, lg_cmp_gt, lg_cmp_lt, lg_cmp_eq, Bool.false_eq_true, Bool.true_eq_false, reduceCtorEq, false_iff, true_iff, iff_true, iff_false, and_true, true_and, and_false, false_and, reduceIte, ite_true, ite_false, eq_self] at *)) <;> omega) _ _ ⟨(by ((try simp only [vp_in_iff, Int32.lt_iff_toInt_lt, Int32.le_iff_toInt_le, ← Int32.toInt_inj, Int32.reduceToInt, n_1, n_2, n_8, Int32.toNatClampNeg, Int64.lt_iff_toInt_lt, Int64.le_iff_toInt_le, ← Int64.toInt_inj, Int64.reduceToInt, Int32.toInt_toInt64, lg_cmp_ge, lg_cmp_le, lg_cmp_gt, lg_cmp_lt, lg_cmp_eq, Bool.false_eq_true, Bool.true_eq_false, reduceCtorEq, false_iff, true_iff, iff_true, iff_false, and_true, true_and, and_false, false_and, reduceIte, ite_true, ite_false, eq_self] at *)) <;> omega), (by ((try simp only [vp_in_iff, Int32.lt_iff_toInt_lt, Int32.le_iff_toInt_le, ← Int32.toInt_inj, Int32.reduceToInt, n_1, n_2, n_8, Int32.toNatClampNeg, Int64.lt_iff_toInt_lt, Int64.le_iff_toInt_le, ← Int64.toInt_inj, Int64.reduceToInt, Int32.toInt_toInt64, lg_cmp_ge, lg_cmp_le, lg_cmp_gt, lg_cmp_lt, lg_cmp_eq, Bool.false_eq_true, Bool.true_eq_false, reduceCtorEq, false_iff, true_iff, iff_true, iff_false, and_true, true_and, and_false, false_and, reduceIte, ite_true, ite_false, eq_self] at *)) <;> omega), trivial⟩ rfl
          · refine wa_aload_n (i := 0) rfl rfl ?_
            refine wa_iload_n (i := 2) rfl rfl ?_
            refine wa_iload_n (i := 1) rfl rfl ?_
            refine wa_Vi (d9 := d - 1) [.int _, .int _] [] (sp_X9_isBefore G (d := d - 1) (by omega) σ _ _ (by ((try simp only [vp_in_iff, Int32.lt_iff_toInt_lt, Int32.le_iff_toInt_le, ← Int32.toInt_inj, Int32.reduceToInt, n_1, n_2, n_8, Int32.toNatClampNeg, Int64.lt_iff_toInt_lt, Int64.le_iff_toInt_le, ← Int64.toInt_inj, Int64.reduceToInt, Int32.toInt_toInt64, lg_cmp_ge, lg_cmp_le, lg_cmp_gt, lg_cmp_lt, lg_cmp_eq, Bool.false_eq_true, Bool.true_eq_false, reduceCtorEq, false_iff, true_iff, iff_true, iff_false, and_true, true_and, and_false, false_and, reduceIte, ite_true, ite_false, eq_self] at *)) <;> omega) (by ((try simp only [vp_in_iff, Int32.lt_iff_toInt_lt, Int32.le_iff_toInt_le, ← Int32.toInt_inj, Int32.reduceToInt, n_1, n_2, n_8, Int32.toNatClampNeg, Int64.lt_iff_toInt_lt, Int64.le_iff_toInt_le, ← Int64.toInt_inj, Int64.reduceToInt, Int32.toInt_toInt64, lg_cmp_ge, lg_cmp_le, lg_cmp_gt, lg_cmp_lt, lg_cmp_eq, Bool.false_eq_true, Bool.true_eq_false, reduceCtorEq, false_iff, true_iff, iff_true, iff_false, and_true, true_and, and_false, false_and, reduceIte, ite_true, ite_false, eq_self] at *)) <;> omega) (by first | assumption | exact Or.inl rfl | exact Or.inr rfl | (((try simp only [vp_in_iff, Int32.lt_iff_toInt_lt, Int32.le_iff_toInt_le, ← Int32.toInt_inj, Int32.reduceToInt, n_1, n_2, n_8, Int32.toNatClampNeg, Int64.lt_iff_toInt_lt, Int64.le_iff_toInt_le, ← Int64.toInt_inj, Int64.reduceToInt, Int32.toInt_toInt64, lg_cmp_ge, lg_cmp_le, lg_cmp_gt, lg_cmp_lt, lg_cmp_eq, Bool.false_eq_true, Bool.true_eq_false, reduceCtorEq, false_iff, true_iff, iff_true, iff_false, and_true, true_and, and_false, false_and, reduceIte, ite_true, ite_false, eq_self] at *)) <;> omega))) (rfl) rfl rfl (zr (by omega)) mk_X9_isBefore ly_60 ml_9_165 (Nat.le_of_ble_eq_true rfl) (fun x10 s9 hs9 => ?_)
            obtain ⟨bx10, ex10, zs9, -⟩ := pB hs9
            subst ex10
            subst zs9
            refine wa_if_eq o_X9_leaving_39 (by decide) (fun h11 => ?_) (fun h11 => ?_)
            · replace h11 := bI_f (b := bx10) (rfl) h11
              refine wa_iinc (v := (1)) (lv' := fun y12 => [(2, .int y12), (0, .ref 60), (1, .int l1)]) (by decide) rfl (by decide) (fun _ => rfl) (fun y12 hy12 => ?_)
              have ty12 := i_addT hy12.symm
              clear hy12
              refine wa_goto o_X9_leaving_4 (by decide) ?_
              refine wa_pick [1, 2, 0] rfl ?_
              exact ih1 _ (by ((try simp only [vp_in_iff, Int32.lt_iff_toInt_lt, Int32.le_iff_toInt_le, ← Int32.toInt_inj, Int32.reduceToInt, n_1, n_2, n_8, Int32.toNatClampNeg, Int64.lt_iff_toInt_lt, Int64.le_iff_toInt_le, ← Int64.toInt_inj, Int64.reduceToInt, Int32.toInt_toInt64, lg_cmp_ge, lg_cmp_le, lg_cmp_gt, lg_cmp_lt, lg_cmp_eq, Bool.false_eq_true, Bool.true_eq_false, reduceCtorEq, false_iff, true_iff, iff_true, iff_false, and_true, true_and, and_false, false_and, reduceIte, ite_true, ite_false, eq_self] at *)) <;> omega) _ _ ⟨(by ((try simp only [vp_in_iff, Int32.lt_iff_toInt_lt, Int32.le_iff_toInt_le, ← Int32.toInt_inj, Int32.reduceToInt, n_1, n_2, n_8, Int32.toNatClampNeg, Int64.lt_iff_toInt_lt, Int64.le_iff_toInt_le, ← Int64.toInt_inj, Int64.reduceToInt, Int32.toInt_toInt64, lg_cmp_ge, lg_cmp_le, lg_cmp_gt, lg_cmp_lt, lg_cmp_eq, Bool.false_eq_true, Bool.true_eq_false, reduceCtorEq, false_iff, true_iff, iff_true, iff_false, and_true, true_and, and_false, false_and, reduceIte, ite_true, ite_false, eq_self] at *)) <;> omega), (by ((try simp only [vp_in_iff, Int32.lt_iff_toInt_lt, Int32.le_iff_toInt_le, ← Int32.toInt_inj, Int32.reduceToInt, n_1, n_2, n_8, Int32.toNatClampNeg, Int64.lt_iff_toInt_lt, Int64.le_iff_toInt_le, ← Int64.toInt_inj, Int64.reduceToInt, Int32.toInt_toInt64, lg_cmp_ge, lg_cmp_le, lg_cmp_gt, lg_cmp_lt, lg_cmp_eq, Bool.false_eq_true, Bool.true_eq_false, reduceCtorEq, false_iff, true_iff, iff_true, iff_false, and_true, true_and, and_false, false_and, reduceIte, ite_true, ite_false, eq_self] at *)) <;> omega), trivial⟩ rfl
            · replace h11 := bI_t (b := bx10) (rfl) h11
              refine wa_iload_n (i := 2) rfl rfl ?_
              refine wa_istore_nD (lv' := [(1, .int l2), (0, .ref 60), (2, .int l2)]) (i := 1) rfl (by decide) rfl ?_
              refine wa_iinc (v := (1)) (lv' := fun y13 => [(2, .int y13), (1, .int l2), (0, .ref 60)]) (by decide) rfl (by decide) (fun _ => rfl) (fun y13 hy13 => ?_)
              have ty13 := i_addT hy13.symm
              clear hy13
              refine wa_goto o_X9_leaving_4 (by decide) ?_
              refine wa_pick [2, 1, 0] rfl ?_
              exact ih1 _ (by ((try simp only [vp_in_iff, Int32.lt_iff_toInt_lt, Int32.le_iff_toInt_le, ← Int32.toInt_inj, Int32.reduceToInt, n_1, n_2, n_8, Int32.toNatClampNeg, Int64.lt_iff_toInt_lt, Int64.le_iff_toInt_le, ← Int64.toInt_inj, Int64.reduceToInt, Int32.toInt_toInt64, lg_cmp_ge, lg_cmp_le, lg_cmp_gt, lg_cmp_lt, lg_cmp_eq, Bool.false_eq_true, Bool.true_eq_false, reduceCtorEq, false_iff, true_iff, iff_true, iff_false, and_true, true_and, and_false, false_and, reduceIte, ite_true, ite_false, eq_self] at *)) <;> omega) _ _ ⟨(by ((try simp only [vp_in_iff, Int32.lt_iff_toInt_lt, Int32.le_iff_toInt_le, ← Int32.toInt_inj, Int32.reduceToInt, n_1, n_2, n_8, Int32.toNatClampNeg, Int64.lt_iff_toInt_lt, Int64.le_iff_toInt_le, ← Int64.toInt_inj, Int64.reduceToInt, Int32.toInt_toInt64, lg_cmp_ge, lg_cmp_le, lg_cmp_gt, lg_cmp_lt, lg_cmp_eq, Bool.false_eq_true, Bool.true_eq_false, reduceCtorEq, false_iff, true_iff, iff_true, iff_false, and_true, true_and, and_false, false_and, reduceIte, ite_true, ite_false, eq_self] at *)) <;> omega), (by ((try simp only [vp_in_iff, Int32.lt_iff_toInt_lt, Int32.le_iff_toInt_le, ← Int32.toInt_inj, Int32.reduceToInt, n_1, n_2, n_8, Int32.toNatClampNeg, Int64.lt_iff_toInt_lt, Int64.le_iff_toInt_le, ← Int64.toInt_inj, Int64.reduceToInt, Int32.toInt_toInt64, lg_cmp_ge, lg_cmp_le, lg_cmp_gt, lg_cmp_lt, lg_cmp_eq, Bool.false_eq_true, Bool.true_eq_false, reduceCtorEq, false_iff, true_iff, iff_true, iff_false, and_true, true_and, and_false, false_and, reduceIte, ite_true, ite_false, eq_self] at *)) <;> omega), trivial⟩ rfl
  exact hi2 _ _ _ ⟨(by ((try simp only [vp_in_iff, Int32.lt_iff_toInt_lt, Int32.le_iff_toInt_le, ← Int32.toInt_inj, Int32.reduceToInt, n_1, n_2, n_8, Int32.toNatClampNeg, Int64.lt_iff_toInt_lt, Int64.le_iff_toInt_le, ← Int64.toInt_inj, Int64.reduceToInt, Int32.toInt_toInt64, lg_cmp_ge, lg_cmp_le, lg_cmp_gt, lg_cmp_lt, lg_cmp_eq, Bool.false_eq_true, Bool.true_eq_false, reduceCtorEq, false_iff, true_iff, iff_true, iff_false, and_true, true_and, and_false, false_and, reduceIte, ite_true, ite_false, eq_self] at *)) <;> omega), (by ((try simp only [vp_in_iff, Int32.lt_iff_toInt_lt, Int32.le_iff_toInt_le, ← Int32.toInt_inj, Int32.reduceToInt, n_1, n_2, n_8, Int32.toNatClampNeg, Int64.lt_iff_toInt_lt, Int64.le_iff_toInt_le, ← Int64.toInt_inj, Int64.reduceToInt, Int32.toInt_toInt64, lg_cmp_ge, lg_cmp_le, lg_cmp_gt, lg_cmp_lt, lg_cmp_eq, Bool.false_eq_true, Bool.true_eq_false, reduceCtorEq, false_iff, true_iff, iff_true, iff_false, and_true, true_and, and_false, false_and, reduceIte, ite_true, ite_false, eq_self] at *)) <;> omega), trivial⟩ rfl
set_option maxHeartbeats 4000000 in
theorem sp_X9_exchange (G : kG9) {d : Nat} (hd : 0 ≤ d) (σ : St) (a0 : Int32) (a1 : Int32) (p1 : 0 ≤ a0.toInt ∧ a0.toInt < 4) (r1 : 0 ≤ (gi σ 60 12).toInt ∧ (gi σ 60 12).toInt ≤ 4) : Ct G M_X9_exchange d [.ref 60, .int a0, .int a1] σ (fun r σ' => Sm 60 65 σ σ' ∧ (0 ≤ (gi σ' 60 12).toInt ∧ (gi σ' 60 12).toInt ≤ 4) ∧ True) := by
  refine wa_start (by decide) rfl (Nat.le_of_ble_eq_true rfl) (lv := [(0, .ref 60), (1, .int a0), (2, .int a1)]) rfl o_X9_exchange_0 rfl ?_
  have ua0 := Int32.toInt_lt a0
  have wa0 := Int32.le_toInt a0
  have ua1 := Int32.toInt_lt a1
  have wa1 := Int32.le_toInt a1
  refine wa_aload_n (i := 0) rfl rfl ?_
  refine wa_getr ck_9 fl_9_25 ly_60 rf_60_4 ?_
  refine wa_iload_n (i := 1) rfl rfl ?_
  refine wa_lald ly_65 (by ((try simp only [vp_in_iff, Int32.lt_iff_toInt_lt, Int32.le_iff_toInt_le, ← Int32.toInt_inj, Int32.reduceToInt, n_1, n_2, n_8, Int32.toNatClampNeg, Int64.lt_iff_toInt_lt, Int64.le_iff_toInt_le, ← Int64.toInt_inj, Int64.reduceToInt, Int32.toInt_toInt64, lg_cmp_ge, lg_cmp_le, lg_cmp_gt, lg_cmp_lt, lg_cmp_eq, Bool.false_eq_true, Bool.true_eq_false, reduceCtorEq, false_iff, true_iff, iff_true, iff_false, and_true, true_and, and_false, false_and, reduceIte, ite_true, ite_false, eq_self] at *)) <;> omega) ?_
  refine wa_lstore_nD (lv' := [(3, .long (gl σ 65 (a0).toNatClampNeg)), (0, .ref 60), (1, .int a0), (2, .int a1)]) (i := 3) rfl (by decide) rfl ?_
  refine wa_lload_n (i := 3) rfl rfl ?_
  refine wa_lconst (v := 0) (by decide) ?_
  refine wa_lcmp ?_
  refine wa_top (fun v1 hv1 => ?_)
  have tv1 := i_cmpT hv1
  clear hv1
  refine wa_if_ge o_X9_exchange_19 (by decide) (fun h2 => ?_) (fun h2 => ?_)
  · refine wa_lconst (v := 1) (by decide) ?_
    refine wa_lstoreD (lv' := [(5, .long 1), (3, .long (gl σ 65 (a0).toNatClampNeg)), (0, .ref 60), (1, .int a0), (2, .int a1)]) (by decide) rfl ?_
    refine wa_iconst (v := 0) (by decide) ?_
    refine wa_istoreD (lv' := [(7, .int 0), (5, .long 1), (3, .long (gl σ 65 (a0).toNatClampNeg)), (0, .ref 60), (1, .int a0), (2, .int a1)]) (by decide) rfl ?_
    refine wa_pick [3, 4, 5, 2, 1, 0] rfl ?_
    have hi5 : ∀ (n9_25 : Nat) (l7 : Int32) (s3 : St), ((Sm 60 65 σ s3) ∧ (gi s3 60 12 = gi σ 60 12) ∧ (gl s3 60 9 = gl σ 60 9) ∧ (0 ≤ l7.toInt) ∧ (True)) → (2147483647 - l7.toInt).toNat = n9_25 → WA G M_X9_exchange (ZM G M_X9_exchange d (fun r σ' => Sm 60 65 σ σ' ∧ (0 ≤ (gi σ' 60 12).toInt ∧ (gi σ' 60 12).toInt ≤ 4) ∧ True)) B_X9_exchange_25 [(0, .ref 60), (1, .int a0), (2, .int a1), (3, .long (gl σ 65 (a0).toNatClampNeg)), (5, .long 1), (7, .int l7)] [] s3 := by
      intro n9_25
      induction n9_25 using Nat.strongRecOn with
      | _ n9_25 ih4 =>
        intro l7 s3 i9 m9_25
        obtain ⟨Fs3, khi5_0, khi5_1, jhi5_0, -⟩ := i9
        have ul7 := Int32.toInt_lt l7
        have wl7 := Int32.le_toInt l7
        refine wa_iload rfl ?_
        refine wa_aload_n (i := 0) rfl rfl ?_
        refine wa_geti ck_9 fl_9_62 ly_60 ?_
        refine wa_rw (khi5_0) ?_
        refine wa_icmp_ge o_X9_exchange_135 (by decide) (fun h6 => ?_) (fun h6 => ?_)
        · refine wa_iconst (v := 0) (by decide) ?_
          refine wa_istoreD (lv' := [(7, .int 0), (0, .ref 60), (1, .int a0), (2, .int a1), (3, .long (gl σ 65 (a0).toNatClampNeg)), (5, .long 1)]) (by decide) rfl ?_
          refine wa_pick [1, 2, 3, 4, 5, 0] rfl ?_
          have hi9 : ∀ (n9_138 : Nat) (l7 : Int32) (s7 : St), ((Sm 60 65 σ s7) ∧ (gi s7 60 12 = gi σ 60 12) ∧ (gl s7 60 9 = gl σ 60 9) ∧ (0 ≤ l7.toInt) ∧ (True)) → (2147483647 - l7.toInt).toNat = n9_138 → WA G M_X9_exchange (ZM G M_X9_exchange d (fun r σ' => Sm 60 65 σ σ' ∧ (0 ≤ (gi σ' 60 12).toInt ∧ (gi σ' 60 12).toInt ≤ 4) ∧ True)) B_X9_exchange_138 [(0, .ref 60), (1, .int a0), (2, .int a1), (3, .long (gl σ 65 (a0).toNatClampNeg)), (5, .long 1), (7, .int l7)] [] s7 := by
            intro n9_138
            induction n9_138 using Nat.strongRecOn with
            | _ n9_138 ih8 =>
              intro l7 s7 i9 m9_138
              obtain ⟨Fs7, khi9_0, khi9_1, jhi9_0, -⟩ := i9
              have ul7 := Int32.toInt_lt l7
              have wl7 := Int32.le_toInt l7
              refine wa_iload rfl ?_
              refine wa_aload_n (i := 0) rfl rfl ?_
              refine wa_geti ck_9 fl_9_62 ly_60 ?_
              refine wa_rw (khi9_0) ?_
              refine wa_icmp_ge o_X9_exchange_169 (by decide) (fun h10 => ?_) (fun h10 => ?_)
              · refine wa_aload_n (i := 0) rfl rfl ?_
                refine wa_lload rfl ?_
                refine wa_lload_n (i := 3) rfl rfl ?_
                refine wa_lmul ?_
                refine wa_topl (fun v11 hv11 => ?_)
                clear hv11
                refine wa_putl ck_9 fl_9_37 ly_60 (fun s12 hs12 => ?_)
                have Fs12 : Sm 60 65 σ s12 := by rw [hs12]; exact Sm.sl Fs7 _ _ (by decide) (by decide)
                refine wa_aload_n (i := 0) rfl rfl ?_
                refine wa_getr ck_9 fl_9_18 ly_60 rf_60_2 ?_
                refine wa_iload_n (i := 1) rfl rfl ?_
                refine wa_iload_n (i := 2) rfl rfl ?_
                refine wa_iast ly_63 (by ((try simp only [vp_in_iff, Int32.lt_iff_toInt_lt, Int32.le_iff_toInt_le, ← Int32.toInt_inj, Int32.reduceToInt, n_1, n_2, n_8, Int32.toNatClampNeg, Int64.lt_iff_toInt_lt, Int64.le_iff_toInt_le, ← Int64.toInt_inj, Int64.reduceToInt, Int32.toInt_toInt64, lg_cmp_ge, lg_cmp_le, lg_cmp_gt, lg_cmp_lt, lg_cmp_eq, Bool.false_eq_true, Bool.true_eq_false, reduceCtorEq, false_iff, true_iff, iff_true, iff_false, and_true, true_and, and_false, false_and, reduceIte, ite_true, ite_false, eq_self] at *)) <;> omega) (fun s13 hs13 => ?_)
                have Fs13 : Sm 60 65 σ s13 := by rw [hs13]; exact Sm.si Fs12 _ _ (by decide) (by decide)
                refine wa_return (st := []) rfl rfl ?_
                exact ⟨Fs13, (by rw [(nxq_gi_si hs13 (by decide)).trans ((nx_gi_sl hs12).trans (khi9_0))]; first | assumption | (((try simp only [vp_in_iff, Int32.lt_iff_toInt_lt, Int32.le_iff_toInt_le, ← Int32.toInt_inj, Int32.reduceToInt, n_1, n_2, n_8, Int32.toNatClampNeg, Int64.lt_iff_toInt_lt, Int64.le_iff_toInt_le, ← Int64.toInt_inj, Int64.reduceToInt, Int32.toInt_toInt64, lg_cmp_ge, lg_cmp_le, lg_cmp_gt, lg_cmp_lt, lg_cmp_eq, Bool.false_eq_true, Bool.true_eq_false, reduceCtorEq, false_iff, true_iff, iff_true, iff_false, and_true, true_and, and_false, false_and, reduceIte, ite_true, ite_false, eq_self] at *)) <;> omega)), trivial⟩
              · have mh10 := nle_mx h10
                refine wa_aload_n (i := 0) rfl rfl ?_
                refine wa_getr ck_9 fl_9_22 ly_60 rf_60_3 ?_
                refine wa_iload_n (i := 1) rfl rfl ?_
                refine wa_iconst (v := 4) (by decide) ?_
                refine wa_imul ?_
                refine wa_top (fun v14 hv14 => ?_)
                have tv14 := i_mulT hv14
                clear hv14
                refine wa_iload rfl ?_
                refine wa_iadd ?_
                refine wa_top (fun v15 hv15 => ?_)
                have tv15 := i_addT hv15
                clear hv15
                refine wa_dup2 rfl rfl ?_
                refine wa_lald ly_64 (by ((try simp only [vp_in_iff, Int32.lt_iff_toInt_lt, Int32.le_iff_toInt_le, ← Int32.toInt_inj, Int32.reduceToInt, n_1, n_2, n_8, Int32.toNatClampNeg, Int64.lt_iff_toInt_lt, Int64.le_iff_toInt_le, ← Int64.toInt_inj, Int64.reduceToInt, Int32.toInt_toInt64, lg_cmp_ge, lg_cmp_le, lg_cmp_gt, lg_cmp_lt, lg_cmp_eq, Bool.false_eq_true, Bool.true_eq_false, reduceCtorEq, false_iff, true_iff, iff_true, iff_false, and_true, true_and, and_false, false_and, reduceIte, ite_true, ite_false, eq_self] at *)) <;> omega) ?_
                refine wa_lload rfl ?_
                refine wa_lmul ?_
                refine wa_topl (fun v16 hv16 => ?_)
                clear hv16
                refine wa_last ly_64 (by ((try simp only [vp_in_iff, Int32.lt_iff_toInt_lt, Int32.le_iff_toInt_le, ← Int32.toInt_inj, Int32.reduceToInt, n_1, n_2, n_8, Int32.toNatClampNeg, Int64.lt_iff_toInt_lt, Int64.le_iff_toInt_le, ← Int64.toInt_inj, Int64.reduceToInt, Int32.toInt_toInt64, lg_cmp_ge, lg_cmp_le, lg_cmp_gt, lg_cmp_lt, lg_cmp_eq, Bool.false_eq_true, Bool.true_eq_false, reduceCtorEq, false_iff, true_iff, iff_true, iff_false, and_true, true_and, and_false, false_and, reduceIte, ite_true, ite_false, eq_self] at *)) <;> omega) (fun s17 hs17 => ?_)
                have Fs17 : Sm 60 65 σ s17 := by rw [hs17]; exact Sm.sl Fs7 _ _ (by decide) (by decide)
                refine wa_iinc (v := (1)) (lv' := fun y18 => [(7, .int y18), (0, .ref 60), (1, .int a0), (2, .int a1), (3, .long (gl σ 65 (a0).toNatClampNeg)), (5, .long 1)]) (by decide) rfl (by decide) (fun _ => rfl) (fun y18 hy18 => ?_)
                have ty18 := i_addT hy18.symm
                clear hy18
                refine wa_goto o_X9_exchange_138 (by decide) ?_
                refine wa_pick [1, 2, 3, 4, 5, 0] rfl ?_
                exact ih8 _ (by ((try simp only [vp_in_iff, Int32.lt_iff_toInt_lt, Int32.le_iff_toInt_le, ← Int32.toInt_inj, Int32.reduceToInt, n_1, n_2, n_8, Int32.toNatClampNeg, Int64.lt_iff_toInt_lt, Int64.le_iff_toInt_le, ← Int64.toInt_inj, Int64.reduceToInt, Int32.toInt_toInt64, lg_cmp_ge, lg_cmp_le, lg_cmp_gt, lg_cmp_lt, lg_cmp_eq, Bool.false_eq_true, Bool.true_eq_false, reduceCtorEq, false_iff, true_iff, iff_true, iff_false, and_true, true_and, and_false, false_and, reduceIte, ite_true, ite_false, eq_self] at *)) <;> omega) _ _ ⟨Fs17, ((nx_gi_sl hs17).trans (khi9_0)), ((nxq_gl_sl hs17 (by decide)).trans (khi9_1)), (by ((try simp only [vp_in_iff, Int32.lt_iff_toInt_lt, Int32.le_iff_toInt_le, ← Int32.toInt_inj, Int32.reduceToInt, n_1, n_2, n_8, Int32.toNatClampNeg, Int64.lt_iff_toInt_lt, Int64.le_iff_toInt_le, ← Int64.toInt_inj, Int64.reduceToInt, Int32.toInt_toInt64, lg_cmp_ge, lg_cmp_le, lg_cmp_gt, lg_cmp_lt, lg_cmp_eq, Bool.false_eq_true, Bool.true_eq_false, reduceCtorEq, false_iff, true_iff, iff_true, iff_false, and_true, true_and, and_false, false_and, reduceIte, ite_true, ite_false, eq_self] at *)) <;> omega), trivial⟩ rfl
          exact hi9 _ _ _ ⟨Fs3, (khi5_0), (khi5_1), (by ((try simp only [vp_in_iff, Int32.lt_iff_toInt_lt, Int32.le_iff_toInt_le, ← Int32.toInt_inj, Int32.reduceToInt, n_1, n_2, n_8, Int32.toNatClampNeg, Int64.lt_iff_toInt_lt, Int64.le_iff_toInt_le, ← Int64.toInt_inj, Int64.reduceToInt, Int32.toInt_toInt64, lg_cmp_ge, lg_cmp_le, lg_cmp_gt, lg_cmp_lt, lg_cmp_eq, Bool.false_eq_true, Bool.true_eq_false, reduceCtorEq, false_iff, true_iff, iff_true, iff_false, and_true, true_and, and_false, false_and, reduceIte, ite_true, ite_false, eq_self] at *)) <;> omega), trivial⟩ rfl
        · have mh6 := nle_mx h6
          refine wa_iconst (v := 0) (by decide) ?_
          refine wa_istoreD (lv' := [(8, .int 0), (0, .ref 60), (1, .int a0), (2, .int a1), (3, .long (gl σ 65 (a0).toNatClampNeg)), (5, .long 1), (7, .int l7)]) (by decide) rfl ?_
          refine wa_pick [1, 2, 3, 4, 5, 6, 0] rfl ?_
          have hi21 : ∀ (n9_37 : Nat) (l8 : Int32) (s19 : St), ((Sm 60 65 σ s19) ∧ (gi s19 60 12 = gi σ 60 12) ∧ (gl s19 60 9 = gl σ 60 9) ∧ (0 ≤ l8.toInt) ∧ (True)) → (2147483647 - l8.toInt).toNat = n9_37 → WA G M_X9_exchange (ZM G M_X9_exchange d (fun r σ' => Sm 60 65 σ σ' ∧ (0 ≤ (gi σ' 60 12).toInt ∧ (gi σ' 60 12).toInt ≤ 4) ∧ True)) B_X9_exchange_37 [(0, .ref 60), (1, .int a0), (2, .int a1), (3, .long (gl σ 65 (a0).toNatClampNeg)), (5, .long 1), (7, .int l7), (8, .int l8)] [] s19 := by
            intro n9_37
            induction n9_37 using Nat.strongRecOn with
            | _ n9_37 ih20 =>
              intro l8 s19 i9 m9_37
              obtain ⟨Fs19, khi21_0, khi21_1, jhi21_0, -⟩ := i9
              have ul8 := Int32.toInt_lt l8
              have wl8 := Int32.le_toInt l8
              refine wa_iload rfl ?_
              refine wa_aload_n (i := 0) rfl rfl ?_
              refine wa_geti ck_9 fl_9_62 ly_60 ?_
              refine wa_rw (khi21_0) ?_
              refine wa_icmp_ge o_X9_exchange_129 (by decide) (fun h22 => ?_) (fun h22 => ?_)
              · refine wa_iinc (v := (1)) (lv' := fun y23 => [(7, .int y23), (0, .ref 60), (1, .int a0), (2, .int a1), (3, .long (gl σ 65 (a0).toNatClampNeg)), (5, .long 1), (8, .int l8)]) (by decide) rfl (by decide) (fun _ => rfl) (fun y23 hy23 => ?_)
                have ty23 := i_addT hy23.symm
                clear hy23
                refine wa_goto o_X9_exchange_25 (by decide) ?_
                refine wa_pick [1, 2, 3, 4, 5, 0] rfl ?_
                exact ih4 _ (by ((try simp only [vp_in_iff, Int32.lt_iff_toInt_lt, Int32.le_iff_toInt_le, ← Int32.toInt_inj, Int32.reduceToInt, n_1, n_2, n_8, Int32.toNatClampNeg, Int64.lt_iff_toInt_lt, Int64.le_iff_toInt_le, ← Int64.toInt_inj, Int64.reduceToInt, Int32.toInt_toInt64, lg_cmp_ge, lg_cmp_le, lg_cmp_gt, lg_cmp_lt, lg_cmp_eq, Bool.false_eq_true, Bool.true_eq_false, reduceCtorEq, false_iff, true_iff, iff_true, iff_false, and_true, true_and, and_false, false_and, reduceIte, ite_true, ite_false, eq_self] at *)) <;> omega) _ _ ⟨Fs19, (khi21_0), (khi21_1), (by ((try simp only [vp_in_iff, Int32.lt_iff_toInt_lt, Int32.le_iff_toInt_le, ← Int32.toInt_inj, Int32.reduceToInt, n_1, n_2, n_8, Int32.toNatClampNeg, Int64.lt_iff_toInt_lt, Int64.le_iff_toInt_le, ← Int64.toInt_inj, Int64.reduceToInt, Int32.toInt_toInt64, lg_cmp_ge, lg_cmp_le, lg_cmp_gt, lg_cmp_lt, lg_cmp_eq, Bool.false_eq_true, Bool.true_eq_false, reduceCtorEq, false_iff, true_iff, iff_true, iff_false, and_true, true_and, and_false, false_and, reduceIte, ite_true, ite_false, eq_self] at *)) <;> omega), trivial⟩ rfl
              · have mh22 := nle_mx h22
                refine wa_iload rfl ?_
                refine wa_iload_n (i := 1) rfl rfl ?_
                refine wa_icmp_eq o_X9_exchange_129 (by decide) (fun h24 => ?_) (fun h24 => ?_)
                · refine wa_iinc (v := (1)) (lv' := fun y25 => [(7, .int y25), (0, .ref 60), (1, .int a0), (2, .int a1), (3, .long (gl σ 65 (a0).toNatClampNeg)), (5, .long 1), (8, .int l8)]) (by decide) rfl (by decide) (fun _ => rfl) (fun y25 hy25 => ?_)
                  have ty25 := i_addT hy25.symm
                  clear hy25
                  refine wa_goto o_X9_exchange_25 (by decide) ?_
                  refine wa_pick [1, 2, 3, 4, 5, 0] rfl ?_
                  exact ih4 _ (by ((try simp only [vp_in_iff, Int32.lt_iff_toInt_lt, Int32.le_iff_toInt_le, ← Int32.toInt_inj, Int32.reduceToInt, n_1, n_2, n_8, Int32.toNatClampNeg, Int64.lt_iff_toInt_lt, Int64.le_iff_toInt_le, ← Int64.toInt_inj, Int64.reduceToInt, Int32.toInt_toInt64, lg_cmp_ge, lg_cmp_le, lg_cmp_gt, lg_cmp_lt, lg_cmp_eq, Bool.false_eq_true, Bool.true_eq_false, reduceCtorEq, false_iff, true_iff, iff_true, iff_false, and_true, true_and, and_false, false_and, reduceIte, ite_true, ite_false, eq_self] at *)) <;> omega) _ _ ⟨Fs19, (khi21_0), (khi21_1), (by ((try simp only [vp_in_iff, Int32.lt_iff_toInt_lt, Int32.le_iff_toInt_le, ← Int32.toInt_inj, Int32.reduceToInt, n_1, n_2, n_8, Int32.toNatClampNeg, Int64.lt_iff_toInt_lt, Int64.le_iff_toInt_le, ← Int64.toInt_inj, Int64.reduceToInt, Int32.toInt_toInt64, lg_cmp_ge, lg_cmp_le, lg_cmp_gt, lg_cmp_lt, lg_cmp_eq, Bool.false_eq_true, Bool.true_eq_false, reduceCtorEq, false_iff, true_iff, iff_true, iff_false, and_true, true_and, and_false, false_and, reduceIte, ite_true, ite_false, eq_self] at *)) <;> omega), trivial⟩ rfl
                · refine wa_lload_n (i := 3) rfl rfl ?_
                  refine wa_aload_n (i := 0) rfl rfl ?_
                  refine wa_getr ck_9 fl_9_22 ly_60 rf_60_3 ?_
                  refine wa_iload rfl ?_
                  refine wa_iconst (v := 4) (by decide) ?_
                  refine wa_imul ?_
                  refine wa_top (fun v26 hv26 => ?_)
                  have tv26 := i_mulT hv26
                  clear hv26
                  refine wa_iload rfl ?_
                  refine wa_iadd ?_
                  refine wa_top (fun v27 hv27 => ?_)
                  have tv27 := i_addT hv27
                  clear hv27
                  refine wa_lald ly_64 (by ((try simp only [vp_in_iff, Int32.lt_iff_toInt_lt, Int32.le_iff_toInt_le, ← Int32.toInt_inj, Int32.reduceToInt, n_1, n_2, n_8, Int32.toNatClampNeg, Int64.lt_iff_toInt_lt, Int64.le_iff_toInt_le, ← Int64.toInt_inj, Int64.reduceToInt, Int32.toInt_toInt64, lg_cmp_ge, lg_cmp_le, lg_cmp_gt, lg_cmp_lt, lg_cmp_eq, Bool.false_eq_true, Bool.true_eq_false, reduceCtorEq, false_iff, true_iff, iff_true, iff_false, and_true, true_and, and_false, false_and, reduceIte, ite_true, ite_false, eq_self] at *)) <;> omega) ?_
                  refine wa_lmul ?_
                  refine wa_topl (fun v28 hv28 => ?_)
                  clear hv28
                  refine wa_aload_n (i := 0) rfl rfl ?_
                  refine wa_getr ck_9 fl_9_25 ly_60 rf_60_4 ?_
                  refine wa_iload rfl ?_
                  refine wa_lald ly_65 (by ((try simp only [vp_in_iff, Int32.lt_iff_toInt_lt, Int32.le_iff_toInt_le, ← Int32.toInt_inj, Int32.reduceToInt, n_1, n_2, n_8, Int32.toNatClampNeg, Int64.lt_iff_toInt_lt, Int64.le_iff_toInt_le, ← Int64.toInt_inj, Int64.reduceToInt, Int32.toInt_toInt64, lg_cmp_ge, lg_cmp_le, lg_cmp_gt, lg_cmp_lt, lg_cmp_eq, Bool.false_eq_true, Bool.true_eq_false, reduceCtorEq, false_iff, true_iff, iff_true, iff_false, and_true, true_and, and_false, false_and, reduceIte, ite_true, ite_false, eq_self] at *)) <;> omega) ?_
                  refine wa_aload_n (i := 0) rfl rfl ?_
                  refine wa_getr ck_9 fl_9_22 ly_60 rf_60_3 ?_
                  refine wa_iload_n (i := 1) rfl rfl ?_
                  refine wa_iconst (v := 4) (by decide) ?_
                  refine wa_imul ?_
                  refine wa_top (fun v29 hv29 => ?_)
                  have tv29 := i_mulT hv29
                  clear hv29
                  refine wa_iload rfl ?_
                  refine wa_iadd ?_
                  refine wa_top (fun v30 hv30 => ?_)
                  have tv30 := i_addT hv30
                  clear hv30
                  refine wa_lald ly_64 (by ((try simp only [vp_in_iff, Int32.lt_iff_toInt_lt, Int32.le_iff_toInt_le, ← Int32.toInt_inj, Int32.reduceToInt, n_1, n_2, n_8, Int32.toNatClampNeg, Int64.lt_iff_toInt_lt, Int64.le_iff_toInt_le, ← Int64.toInt_inj, Int64.reduceToInt, Int32.toInt_toInt64, lg_cmp_ge, lg_cmp_le, lg_cmp_gt, lg_cmp_lt, lg_cmp_eq, Bool.false_eq_true, Bool.true_eq_false, reduceCtorEq, false_iff, true_iff, iff_true, iff_false, and_true, true_and, and_false, false_and, reduceIte, ite_true, ite_false, eq_self] at *)) <;> omega) ?_
                  refine wa_lmul ?_
                  refine wa_topl (fun v31 hv31 => ?_)
                  clear hv31
                  refine wa_lsub ?_
                  refine wa_topl (fun v32 hv32 => ?_)
                  clear hv32
                  refine wa_lstoreD (lv' := [(9, .long v32), (0, .ref 60), (1, .int a0), (2, .int a1), (3, .long (gl σ 65 (a0).toNatClampNeg)), (5, .long 1), (7, .int l7), (8, .int l8)]) (by decide) rfl ?_
                  refine wa_aload_n (i := 0) rfl rfl ?_
                  refine wa_getr ck_9 fl_9_22 ly_60 rf_60_3 ?_
                  refine wa_iload rfl ?_
                  refine wa_iconst (v := 4) (by decide) ?_
                  refine wa_imul ?_
                  refine wa_top (fun v33 hv33 => ?_)
                  have tv33 := i_mulT hv33
                  clear hv33
                  refine wa_iload rfl ?_
                  refine wa_iadd ?_
                  refine wa_top (fun v34 hv34 => ?_)
                  have tv34 := i_addT hv34
                  clear hv34
                  refine wa_aload_n (i := 0) rfl rfl ?_
                  refine wa_getl ck_9 fl_9_37 ly_60 ?_
                  refine wa_rwl (khi21_1) ?_
                  refine wa_lconst (v := 0) (by decide) ?_
                  refine wa_lcmp ?_
                  refine wa_top (fun v35 hv35 => ?_)
                  have tv35 := i_cmpT hv35
                  clear hv35
                  refine wa_if_ne o_X9_exchange_112 (by decide) (fun h36 => ?_) (fun h36 => ?_)
                  · refine wa_lload rfl ?_
                    refine wa_lload rfl ?_
                    refine wa_aload_n (i := 0) rfl rfl ?_
                    refine wa_getl ck_9 fl_9_37 ly_60 ?_
                    refine wa_rwl (khi21_1) ?_
                    refine wa_ldiv (by ((try simp only [vp_in_iff, Int32.lt_iff_toInt_lt, Int32.le_iff_toInt_le, ← Int32.toInt_inj, Int32.reduceToInt, n_1, n_2, n_8, Int32.toNatClampNeg, Int64.lt_iff_toInt_lt, Int64.le_iff_toInt_le, ← Int64.toInt_inj, Int64.reduceToInt, Int32.toInt_toInt64, lg_cmp_ge, lg_cmp_le, lg_cmp_gt, lg_cmp_lt, lg_cmp_eq, Bool.false_eq_true, Bool.true_eq_false, reduceCtorEq, false_iff, true_iff, iff_true, iff_false, and_true, true_and, and_false, false_and, reduceIte, ite_true, ite_false, eq_self] at *)) <;> omega) ?_
                    refine wa_topl (fun v37 hv37 => ?_)
                    clear hv37
                    refine wa_lmul ?_
                    refine wa_topl (fun v38 hv38 => ?_)
                    clear hv38
                    refine wa_last ly_64 (by ((try simp only [vp_in_iff, Int32.lt_iff_toInt_lt, Int32.le_iff_toInt_le, ← Int32.toInt_inj, Int32.reduceToInt, n_1, n_2, n_8, Int32.toNatClampNeg, Int64.lt_iff_toInt_lt, Int64.le_iff_toInt_le, ← Int64.toInt_inj, Int64.reduceToInt, Int32.toInt_toInt64, lg_cmp_ge, lg_cmp_le, lg_cmp_gt, lg_cmp_lt, lg_cmp_eq, Bool.false_eq_true, Bool.true_eq_false, reduceCtorEq, false_iff, true_iff, iff_true, iff_false, and_true, true_and, and_false, false_and, reduceIte, ite_true, ite_false, eq_self] at *)) <;> omega) (fun s39 hs39 => ?_)
                    have Fs39 : Sm 60 65 σ s39 := by rw [hs39]; exact Sm.sl Fs19 _ _ (by decide) (by decide)
                    refine wa_iinc (v := (1)) (lv' := fun y40 => [(8, .int y40), (9, .long v32), (0, .ref 60), (1, .int a0), (2, .int a1), (3, .long (gl σ 65 (a0).toNatClampNeg)), (5, .long 1), (7, .int l7)]) (by decide) rfl (by decide) (fun _ => rfl) (fun y40 hy40 => ?_)
                    have ty40 := i_addT hy40.symm
                    clear hy40
                    refine wa_goto o_X9_exchange_37 (by decide) ?_
                    refine wa_pick [2, 3, 4, 5, 6, 7, 0] rfl ?_
                    exact ih20 _ (by ((try simp only [vp_in_iff, Int32.lt_iff_toInt_lt, Int32.le_iff_toInt_le, ← Int32.toInt_inj, Int32.reduceToInt, n_1, n_2, n_8, Int32.toNatClampNeg, Int64.lt_iff_toInt_lt, Int64.le_iff_toInt_le, ← Int64.toInt_inj, Int64.reduceToInt, Int32.toInt_toInt64, lg_cmp_ge, lg_cmp_le, lg_cmp_gt, lg_cmp_lt, lg_cmp_eq, Bool.false_eq_true, Bool.true_eq_false, reduceCtorEq, false_iff, true_iff, iff_true, iff_false, and_true, true_and, and_false, false_and, reduceIte, ite_true, ite_false, eq_self] at *)) <;> omega) _ _ ⟨Fs39, ((nx_gi_sl hs39).trans (khi21_0)), ((nxq_gl_sl hs39 (by decide)).trans (khi21_1)), (by ((try simp only [vp_in_iff, Int32.lt_iff_toInt_lt, Int32.le_iff_toInt_le, ← Int32.toInt_inj, Int32.reduceToInt, n_1, n_2, n_8, Int32.toNatClampNeg, Int64.lt_iff_toInt_lt, Int64.le_iff_toInt_le, ← Int64.toInt_inj, Int64.reduceToInt, Int32.toInt_toInt64, lg_cmp_ge, lg_cmp_le, lg_cmp_gt, lg_cmp_lt, lg_cmp_eq, Bool.false_eq_true, Bool.true_eq_false, reduceCtorEq, false_iff, true_iff, iff_true, iff_false, and_true, true_and, and_false, false_and, reduceIte, ite_true, ite_false, eq_self] at *)) <;> omega), trivial⟩ rfl
                  · refine wa_lconst (v := 0) (by decide) ?_
                    refine wa_goto o_X9_exchange_122 (by decide) ?_
                    refine wa_last ly_64 (by ((try simp only [vp_in_iff, Int32.lt_iff_toInt_lt, Int32.le_iff_toInt_le, ← Int32.toInt_inj, Int32.reduceToInt, n_1, n_2, n_8, Int32.toNatClampNeg, Int64.lt_iff_toInt_lt, Int64.le_iff_toInt_le, ← Int64.toInt_inj, Int64.reduceToInt, Int32.toInt_toInt64, lg_cmp_ge, lg_cmp_le, lg_cmp_gt, lg_cmp_lt, lg_cmp_eq, Bool.false_eq_true, Bool.true_eq_false, reduceCtorEq, false_iff, true_iff, iff_true, iff_false, and_true, true_and, and_false, false_and, reduceIte, ite_true, ite_false, eq_self] at *)) <;> omega) (fun s41 hs41 => ?_)
                    have Fs41 : Sm 60 65 σ s41 := by rw [hs41]; exact Sm.sl Fs19 _ _ (by decide) (by decide)
                    refine wa_iinc (v := (1)) (lv' := fun y42 => [(8, .int y42), (9, .long v32), (0, .ref 60), (1, .int a0), (2, .int a1), (3, .long (gl σ 65 (a0).toNatClampNeg)), (5, .long 1), (7, .int l7)]) (by decide) rfl (by decide) (fun _ => rfl) (fun y42 hy42 => ?_)
                    have ty42 := i_addT hy42.symm
                    clear hy42
                    refine wa_goto o_X9_exchange_37 (by decide) ?_
                    refine wa_pick [2, 3, 4, 5, 6, 7, 0] rfl ?_
                    exact ih20 _ (by ((try simp only [vp_in_iff, Int32.lt_iff_toInt_lt, Int32.le_iff_toInt_le, ← Int32.toInt_inj, Int32.reduceToInt, n_1, n_2, n_8, Int32.toNatClampNeg, Int64.lt_iff_toInt_lt, Int64.le_iff_toInt_le, ← Int64.toInt_inj, Int64.reduceToInt, Int32.toInt_toInt64, lg_cmp_ge, lg_cmp_le, lg_cmp_gt, lg_cmp_lt, lg_cmp_eq, Bool.false_eq_true, Bool.true_eq_false, reduceCtorEq, false_iff, true_iff, iff_true, iff_false, and_true, true_and, and_false, false_and, reduceIte, ite_true, ite_false, eq_self] at *)) <;> omega) _ _ ⟨Fs41, ((nx_gi_sl hs41).trans (khi21_0)), ((nxq_gl_sl hs41 (by decide)).trans (khi21_1)), (by ((try simp only [vp_in_iff, Int32.lt_iff_toInt_lt, Int32.le_iff_toInt_le, ← Int32.toInt_inj, Int32.reduceToInt, n_1, n_2, n_8, Int32.toNatClampNeg, Int64.lt_iff_toInt_lt, Int64.le_iff_toInt_le, ← Int64.toInt_inj, Int64.reduceToInt, Int32.toInt_toInt64, lg_cmp_ge, lg_cmp_le, lg_cmp_gt, lg_cmp_lt, lg_cmp_eq, Bool.false_eq_true, Bool.true_eq_false, reduceCtorEq, false_iff, true_iff, iff_true, iff_false, and_true, true_and, and_false, false_and, reduceIte, ite_true, ite_false, eq_self] at *)) <;> omega), trivial⟩ rfl
          exact hi21 _ _ _ ⟨Fs3, (khi5_0), (khi5_1), (by ((try simp only [vp_in_iff, Int32.lt_iff_toInt_lt, Int32.le_iff_toInt_le, ← Int32.toInt_inj, Int32.reduceToInt, n_1, n_2, n_8, Int32.toNatClampNeg, Int64.lt_iff_toInt_lt, Int64.le_iff_toInt_le, ← Int64.toInt_inj, Int64.reduceToInt, Int32.toInt_toInt64, lg_cmp_ge, lg_cmp_le, lg_cmp_gt, lg_cmp_lt, lg_cmp_eq, Bool.false_eq_true, Bool.true_eq_false, reduceCtorEq, false_iff, true_iff, iff_true, iff_false, and_true, true_and, and_false, false_and, reduceIte, ite_true, ite_false, eq_self] at *)) <;> omega), trivial⟩ rfl
    exact hi5 _ _ _ ⟨(Sm.rf 60 65 σ), (rfl), (rfl), (by ((try simp only [vp_in_iff, Int32.lt_iff_toInt_lt, Int32.le_iff_toInt_le, ← Int32.toInt_inj, Int32.reduceToInt, n_1, n_2, n_8, Int32.toNatClampNeg, Int64.lt_iff_toInt_lt, Int64.le_iff_toInt_le, ← Int64.toInt_inj, Int64.reduceToInt, Int32.toInt_toInt64, lg_cmp_ge, lg_cmp_le, lg_cmp_gt, lg_cmp_lt, lg_cmp_eq, Bool.false_eq_true, Bool.true_eq_false, reduceCtorEq, false_iff, true_iff, iff_true, iff_false, and_true, true_and, and_false, false_and, reduceIte, ite_true, ite_false, eq_self] at *)) <;> omega), trivial⟩ rfl
  · refine wa_ldc2 (v := (-1)) (allW_in (kT_7 _ (List.mem_of_getElem? (i := 160) rfl)) rfl) ?_
    refine wa_goto o_X9_exchange_20 (by decide) ?_
    refine wa_lstoreD (lv' := [(5, .long (-1)), (3, .long (gl σ 65 (a0).toNatClampNeg)), (0, .ref 60), (1, .int a0), (2, .int a1)]) (by decide) rfl ?_
    refine wa_iconst (v := 0) (by decide) ?_
    refine wa_istoreD (lv' := [(7, .int 0), (5, .long (-1)), (3, .long (gl σ 65 (a0).toNatClampNeg)), (0, .ref 60), (1, .int a0), (2, .int a1)]) (by decide) rfl ?_
    refine wa_pick [3, 4, 5, 2, 1, 0] rfl ?_
    have hi45 : ∀ (n9_25 : Nat) (l7 : Int32) (s43 : St), ((Sm 60 65 σ s43) ∧ (gi s43 60 12 = gi σ 60 12) ∧ (gl s43 60 9 = gl σ 60 9) ∧ (0 ≤ l7.toInt) ∧ (True)) → (2147483647 - l7.toInt).toNat = n9_25 → WA G M_X9_exchange (ZM G M_X9_exchange d (fun r σ' => Sm 60 65 σ σ' ∧ (0 ≤ (gi σ' 60 12).toInt ∧ (gi σ' 60 12).toInt ≤ 4) ∧ True)) B_X9_exchange_25 [(0, .ref 60), (1, .int a0), (2, .int a1), (3, .long (gl σ 65 (a0).toNatClampNeg)), (5, .long (-1)), (7, .int l7)] [] s43 := by
      intro n9_25
      induction n9_25 using Nat.strongRecOn with
      | _ n9_25 ih44 =>
        intro l7 s43 i9 m9_25
        obtain ⟨Fs43, khi45_0, khi45_1, jhi45_0, -⟩ := i9
        have ul7 := Int32.toInt_lt l7
        have wl7 := Int32.le_toInt l7
        refine wa_iload rfl ?_
        refine wa_aload_n (i := 0) rfl rfl ?_
        refine wa_geti ck_9 fl_9_62 ly_60 ?_
        refine wa_rw (khi45_0) ?_
        refine wa_icmp_ge o_X9_exchange_135 (by decide) (fun h46 => ?_) (fun h46 => ?_)
        · refine wa_iconst (v := 0) (by decide) ?_
          refine wa_istoreD (lv' := [(7, .int 0), (0, .ref 60), (1, .int a0), (2, .int a1), (3, .long (gl σ 65 (a0).toNatClampNeg)), (5, .long (-1))]) (by decide) rfl ?_
          refine wa_pick [1, 2, 3, 4, 5, 0] rfl ?_
          have hi49 : ∀ (n9_138 : Nat) (l7 : Int32) (s47 : St), ((Sm 60 65 σ s47) ∧ (gi s47 60 12 = gi σ 60 12) ∧ (gl s47 60 9 = gl σ 60 9) ∧ (0 ≤ l7.toInt) ∧ (True)) → (2147483647 - l7.toInt).toNat = n9_138 → WA G M_X9_exchange (ZM G M_X9_exchange d (fun r σ' => Sm 60 65 σ σ' ∧ (0 ≤ (gi σ' 60 12).toInt ∧ (gi σ' 60 12).toInt ≤ 4) ∧ True)) B_X9_exchange_138 [(0, .ref 60), (1, .int a0), (2, .int a1), (3, .long (gl σ 65 (a0).toNatClampNeg)), (5, .long (-1)), (7, .int l7)] [] s47 := by
            intro n9_138
            induction n9_138 using Nat.strongRecOn with
            | _ n9_138 ih48 =>
              intro l7 s47 i9 m9_138
              obtain ⟨Fs47, khi49_0, khi49_1, jhi49_0, -⟩ := i9
              have ul7 := Int32.toInt_lt l7
              have wl7 := Int32.le_toInt l7
              refine wa_iload rfl ?_
              refine wa_aload_n (i := 0) rfl rfl ?_
              refine wa_geti ck_9 fl_9_62 ly_60 ?_
              refine wa_rw (khi49_0) ?_
              refine wa_icmp_ge o_X9_exchange_169 (by decide) (fun h50 => ?_) (fun h50 => ?_)
              · refine wa_aload_n (i := 0) rfl rfl ?_
                refine wa_lload rfl ?_
                refine wa_lload_n (i := 3) rfl rfl ?_
                refine wa_lmul ?_
                refine wa_topl (fun v51 hv51 => ?_)
                clear hv51
                refine wa_putl ck_9 fl_9_37 ly_60 (fun s52 hs52 => ?_)
                have Fs52 : Sm 60 65 σ s52 := by rw [hs52]; exact Sm.sl Fs47 _ _ (by decide) (by decide)
                refine wa_aload_n (i := 0) rfl rfl ?_
                refine wa_getr ck_9 fl_9_18 ly_60 rf_60_2 ?_
                refine wa_iload_n (i := 1) rfl rfl ?_
                refine wa_iload_n (i := 2) rfl rfl ?_
                refine wa_iast ly_63 (by ((try simp only [vp_in_iff, Int32.lt_iff_toInt_lt, Int32.le_iff_toInt_le, ← Int32.toInt_inj, Int32.reduceToInt, n_1, n_2, n_8, Int32.toNatClampNeg, Int64.lt_iff_toInt_lt, Int64.le_iff_toInt_le, ← Int64.toInt_inj, Int64.reduceToInt, Int32.toInt_toInt64, lg_cmp_ge, lg_cmp_le, lg_cmp_gt, lg_cmp_lt, lg_cmp_eq, Bool.false_eq_true, Bool.true_eq_false, reduceCtorEq, false_iff, true_iff, iff_true, iff_false, and_true, true_and, and_false, false_and, reduceIte, ite_true, ite_false, eq_self] at *)) <;> omega) (fun s53 hs53 => ?_)
                have Fs53 : Sm 60 65 σ s53 := by rw [hs53]; exact Sm.si Fs52 _ _ (by decide) (by decide)
                refine wa_return (st := []) rfl rfl ?_
                exact ⟨Fs53, (by rw [(nxq_gi_si hs53 (by decide)).trans ((nx_gi_sl hs52).trans (khi49_0))]; first | assumption | (((try simp only [vp_in_iff, Int32.lt_iff_toInt_lt, Int32.le_iff_toInt_le, ← Int32.toInt_inj, Int32.reduceToInt, n_1, n_2, n_8, Int32.toNatClampNeg, Int64.lt_iff_toInt_lt, Int64.le_iff_toInt_le, ← Int64.toInt_inj, Int64.reduceToInt, Int32.toInt_toInt64, lg_cmp_ge, lg_cmp_le, lg_cmp_gt, lg_cmp_lt, lg_cmp_eq, Bool.false_eq_true, Bool.true_eq_false, reduceCtorEq, false_iff, true_iff, iff_true, iff_false, and_true, true_and, and_false, false_and, reduceIte, ite_true, ite_false, eq_self] at *)) <;> omega)), trivial⟩
              · have mh50 := nle_mx h50
                refine wa_aload_n (i := 0) rfl rfl ?_
                refine wa_getr ck_9 fl_9_22 ly_60 rf_60_3 ?_
                refine wa_iload_n (i := 1) rfl rfl ?_
                refine wa_iconst (v := 4) (by decide) ?_
                refine wa_imul ?_
                refine wa_top (fun v54 hv54 => ?_)
                have tv54 := i_mulT hv54
                clear hv54
                refine wa_iload rfl ?_
                refine wa_iadd ?_
                refine wa_top (fun v55 hv55 => ?_)
                have tv55 := i_addT hv55
                clear hv55
                refine wa_dup2 rfl rfl ?_
                refine wa_lald ly_64 (by ((try simp only [vp_in_iff, Int32.lt_iff_toInt_lt, Int32.le_iff_toInt_le, ← Int32.toInt_inj, Int32.reduceToInt, n_1, n_2, n_8, Int32.toNatClampNeg, Int64.lt_iff_toInt_lt, Int64.le_iff_toInt_le, ← Int64.toInt_inj, Int64.reduceToInt, Int32.toInt_toInt64, lg_cmp_ge, lg_cmp_le, lg_cmp_gt, lg_cmp_lt, lg_cmp_eq, Bool.false_eq_true, Bool.true_eq_false, reduceCtorEq, false_iff, true_iff, iff_true, iff_false, and_true, true_and, and_false, false_and, reduceIte, ite_true, ite_false, eq_self] at *)) <;> omega) ?_
                refine wa_lload rfl ?_
                refine wa_lmul ?_
                refine wa_topl (fun v56 hv56 => ?_)
                clear hv56
                refine wa_last ly_64 (by ((try simp only [vp_in_iff, Int32.lt_iff_toInt_lt, Int32.le_iff_toInt_le, ← Int32.toInt_inj, Int32.reduceToInt, n_1, n_2, n_8, Int32.toNatClampNeg, Int64.lt_iff_toInt_lt, Int64.le_iff_toInt_le, ← Int64.toInt_inj, Int64.reduceToInt, Int32.toInt_toInt64, lg_cmp_ge, lg_cmp_le, lg_cmp_gt, lg_cmp_lt, lg_cmp_eq, Bool.false_eq_true, Bool.true_eq_false, reduceCtorEq, false_iff, true_iff, iff_true, iff_false, and_true, true_and, and_false, false_and, reduceIte, ite_true, ite_false, eq_self] at *)) <;> omega) (fun s57 hs57 => ?_)
                have Fs57 : Sm 60 65 σ s57 := by rw [hs57]; exact Sm.sl Fs47 _ _ (by decide) (by decide)
                refine wa_iinc (v := (1)) (lv' := fun y58 => [(7, .int y58), (0, .ref 60), (1, .int a0), (2, .int a1), (3, .long (gl σ 65 (a0).toNatClampNeg)), (5, .long (-1))]) (by decide) rfl (by decide) (fun _ => rfl) (fun y58 hy58 => ?_)
                have ty58 := i_addT hy58.symm
                clear hy58
                refine wa_goto o_X9_exchange_138 (by decide) ?_
                refine wa_pick [1, 2, 3, 4, 5, 0] rfl ?_
                exact ih48 _ (by ((try simp only [vp_in_iff, Int32.lt_iff_toInt_lt, Int32.le_iff_toInt_le, ← Int32.toInt_inj, Int32.reduceToInt, n_1, n_2, n_8, Int32.toNatClampNeg, Int64.lt_iff_toInt_lt, Int64.le_iff_toInt_le, ← Int64.toInt_inj, Int64.reduceToInt, Int32.toInt_toInt64, lg_cmp_ge, lg_cmp_le, lg_cmp_gt, lg_cmp_lt, lg_cmp_eq, Bool.false_eq_true, Bool.true_eq_false, reduceCtorEq, false_iff, true_iff, iff_true, iff_false, and_true, true_and, and_false, false_and, reduceIte, ite_true, ite_false, eq_self] at *)) <;> omega) _ _ ⟨Fs57, ((nx_gi_sl hs57).trans (khi49_0)), ((nxq_gl_sl hs57 (by decide)).trans (khi49_1)), (by ((try simp only [vp_in_iff, Int32.lt_iff_toInt_lt, Int32.le_iff_toInt_le, ← Int32.toInt_inj, Int32.reduceToInt, n_1, n_2, n_8, Int32.toNatClampNeg, Int64.lt_iff_toInt_lt, Int64.le_iff_toInt_le, ← Int64.toInt_inj, Int64.reduceToInt, Int32.toInt_toInt64, lg_cmp_ge, lg_cmp_le, lg_cmp_gt, lg_cmp_lt, lg_cmp_eq, Bool.false_eq_true, Bool.true_eq_false, reduceCtorEq, false_iff, true_iff, iff_true, iff_false, and_true, true_and, and_false, false_and, reduceIte, ite_true, ite_false, eq_self] at *)) <;> omega), trivial⟩ rfl
          exact hi49 _ _ _ ⟨Fs43, (khi45_0), (khi45_1), (by ((try simp only [vp_in_iff, Int32.lt_iff_toInt_lt, Int32.le_iff_toInt_le, ← Int32.toInt_inj, Int32.reduceToInt, n_1, n_2, n_8, Int32.toNatClampNeg, Int64.lt_iff_toInt_lt, Int64.le_iff_toInt_le, ← Int64.toInt_inj, Int64.reduceToInt, Int32.toInt_toInt64, lg_cmp_ge, lg_cmp_le, lg_cmp_gt, lg_cmp_lt, lg_cmp_eq, Bool.false_eq_true, Bool.true_eq_false, reduceCtorEq, false_iff, true_iff, iff_true, iff_false, and_true, true_and, and_false, false_and, reduceIte, ite_true, ite_false, eq_self] at *)) <;> omega), trivial⟩ rfl
        · have mh46 := nle_mx h46
          refine wa_iconst (v := 0) (by decide) ?_
          refine wa_istoreD (lv' := [(8, .int 0), (0, .ref 60), (1, .int a0), (2, .int a1), (3, .long (gl σ 65 (a0).toNatClampNeg)), (5, .long (-1)), (7, .int l7)]) (by decide) rfl ?_
          refine wa_pick [1, 2, 3, 4, 5, 6, 0] rfl ?_
          have hi61 : ∀ (n9_37 : Nat) (l8 : Int32) (s59 : St), ((Sm 60 65 σ s59) ∧ (gi s59 60 12 = gi σ 60 12) ∧ (gl s59 60 9 = gl σ 60 9) ∧ (0 ≤ l8.toInt) ∧ (True)) → (2147483647 - l8.toInt).toNat = n9_37 → WA G M_X9_exchange (ZM G M_X9_exchange d (fun r σ' => Sm 60 65 σ σ' ∧ (0 ≤ (gi σ' 60 12).toInt ∧ (gi σ' 60 12).toInt ≤ 4) ∧ True)) B_X9_exchange_37 [(0, .ref 60), (1, .int a0), (2, .int a1), (3, .long (gl σ 65 (a0).toNatClampNeg)), (5, .long (-1)), (7, .int l7), (8, .int l8)] [] s59 := by
            intro n9_37
            induction n9_37 using Nat.strongRecOn with
            | _ n9_37 ih60 =>
              intro l8 s59 i9 m9_37
              obtain ⟨Fs59, khi61_0, khi61_1, jhi61_0, -⟩ := i9
              have ul8 := Int32.toInt_lt l8
              have wl8 := Int32.le_toInt l8
              refine wa_iload rfl ?_
              refine wa_aload_n (i := 0) rfl rfl ?_
              refine wa_geti ck_9 fl_9_62 ly_60 ?_
              refine wa_rw (khi61_0) ?_
              refine wa_icmp_ge o_X9_exchange_129 (by decide) (fun h62 => ?_) (fun h62 => ?_)
              · refine wa_iinc (v := (1)) (lv' := fun y63 => [(7, .int y63), (0, .ref 60), (1, .int a0), (2, .int a1), (3, .long (gl σ 65 (a0).toNatClampNeg)), (5, .long (-1)), (8, .int l8)]) (by decide) rfl (by decide) (fun _ => rfl) (fun y63 hy63 => ?_)
                have ty63 := i_addT hy63.symm
                clear hy63
                refine wa_goto o_X9_exchange_25 (by decide) ?_
                refine wa_pick [1, 2, 3, 4, 5, 0] rfl ?_
                exact ih44 _ (by ((try simp only [vp_in_iff, Int32.lt_iff_toInt_lt, Int32.le_iff_toInt_le, ← Int32.toInt_inj, Int32.reduceToInt, n_1, n_2, n_8, Int32.toNatClampNeg, Int64.lt_iff_toInt_lt, Int64.le_iff_toInt_le, ← Int64.toInt_inj, Int64.reduceToInt, Int32.toInt_toInt64, lg_cmp_ge, lg_cmp_le, lg_cmp_gt, lg_cmp_lt, lg_cmp_eq, Bool.false_eq_true, Bool.true_eq_false, reduceCtorEq, false_iff, true_iff, iff_true, iff_false, and_true, true_and, and_false, false_and, reduceIte, ite_true, ite_false, eq_self] at *)) <;> omega) _ _ ⟨Fs59, (khi61_0), (khi61_1), (by ((try simp only [vp_in_iff, Int32.lt_iff_toInt_lt, Int32.le_iff_toInt_le, ← Int32.toInt_inj, Int32.reduceToInt, n_1, n_2, n_8, Int32.toNatClampNeg, Int64.lt_iff_toInt_lt, Int64.le_iff_toInt_le, ← Int64.toInt_inj, Int64.reduceToInt, Int32.toInt_toInt64, lg_cmp_ge, lg_cmp_le, lg_cmp_gt, lg_cmp_lt, lg_cmp_eq, Bool.false_eq_true, Bool.true_eq_false, reduceCtorEq, false_iff, true_iff, iff_true, iff_false, and_true, true_and, and_false, false_and, reduceIte, ite_true, ite_false, eq_self] at *)) <;> omega), trivial⟩ rfl
              · have mh62 := nle_mx h62
                refine wa_iload rfl ?_
                refine wa_iload_n (i := 1) rfl rfl ?_
                refine wa_icmp_eq o_X9_exchange_129 (by decide) (fun h64 => ?_) (fun h64 => ?_)
                · refine wa_iinc (v := (1)) (lv' := fun y65 => [(7, .int y65), (0, .ref 60), (1, .int a0), (2, .int a1), (3, .long (gl σ 65 (a0).toNatClampNeg)), (5, .long (-1)), (8, .int l8)]) (by decide) rfl (by decide) (fun _ => rfl) (fun y65 hy65 => ?_)
                  have ty65 := i_addT hy65.symm
                  clear hy65
                  refine wa_goto o_X9_exchange_25 (by decide) ?_
                  refine wa_pick [1, 2, 3, 4, 5, 0] rfl ?_
                  exact ih44 _ (by ((try simp only [vp_in_iff, Int32.lt_iff_toInt_lt, Int32.le_iff_toInt_le, ← Int32.toInt_inj, Int32.reduceToInt, n_1, n_2, n_8, Int32.toNatClampNeg, Int64.lt_iff_toInt_lt, Int64.le_iff_toInt_le, ← Int64.toInt_inj, Int64.reduceToInt, Int32.toInt_toInt64, lg_cmp_ge, lg_cmp_le, lg_cmp_gt, lg_cmp_lt, lg_cmp_eq, Bool.false_eq_true, Bool.true_eq_false, reduceCtorEq, false_iff, true_iff, iff_true, iff_false, and_true, true_and, and_false, false_and, reduceIte, ite_true, ite_false, eq_self] at *)) <;> omega) _ _ ⟨Fs59, (khi61_0), (khi61_1), (by ((try simp only [vp_in_iff, Int32.lt_iff_toInt_lt, Int32.le_iff_toInt_le, ← Int32.toInt_inj, Int32.reduceToInt, n_1, n_2, n_8, Int32.toNatClampNeg, Int64.lt_iff_toInt_lt, Int64.le_iff_toInt_le, ← Int64.toInt_inj, Int64.reduceToInt, Int32.toInt_toInt64, lg_cmp_ge, lg_cmp_le, lg_cmp_gt, lg_cmp_lt, lg_cmp_eq, Bool.false_eq_true, Bool.true_eq_false, reduceCtorEq, false_iff, true_iff, iff_true, iff_false, and_true, true_and, and_false, false_and, reduceIte, ite_true, ite_false, eq_self] at *)) <;> omega), trivial⟩ rfl
                · refine wa_lload_n (i := 3) rfl rfl ?_
                  refine wa_aload_n (i := 0) rfl rfl ?_
                  refine wa_getr ck_9 fl_9_22 ly_60 rf_60_3 ?_
                  refine wa_iload rfl ?_
                  refine wa_iconst (v := 4) (by decide) ?_
                  refine wa_imul ?_
                  refine wa_top (fun v66 hv66 => ?_)
                  have tv66 := i_mulT hv66
                  clear hv66
                  refine wa_iload rfl ?_
                  refine wa_iadd ?_
                  refine wa_top (fun v67 hv67 => ?_)
                  have tv67 := i_addT hv67
                  clear hv67
                  refine wa_lald ly_64 (by ((try simp only [vp_in_iff, Int32.lt_iff_toInt_lt, Int32.le_iff_toInt_le, ← Int32.toInt_inj, Int32.reduceToInt, n_1, n_2, n_8, Int32.toNatClampNeg, Int64.lt_iff_toInt_lt, Int64.le_iff_toInt_le, ← Int64.toInt_inj, Int64.reduceToInt, Int32.toInt_toInt64, lg_cmp_ge, lg_cmp_le, lg_cmp_gt, lg_cmp_lt, lg_cmp_eq, Bool.false_eq_true, Bool.true_eq_false, reduceCtorEq, false_iff, true_iff, iff_true, iff_false, and_true, true_and, and_false, false_and, reduceIte, ite_true, ite_false, eq_self] at *)) <;> omega) ?_
                  refine wa_lmul ?_
                  refine wa_topl (fun v68 hv68 => ?_)
                  clear hv68
                  refine wa_aload_n (i := 0) rfl rfl ?_
                  refine wa_getr ck_9 fl_9_25 ly_60 rf_60_4 ?_
                  refine wa_iload rfl ?_
                  refine wa_lald ly_65 (by ((try simp only [vp_in_iff, Int32.lt_iff_toInt_lt, Int32.le_iff_toInt_le, ← Int32.toInt_inj, Int32.reduceToInt, n_1, n_2, n_8, Int32.toNatClampNeg, Int64.lt_iff_toInt_lt, Int64.le_iff_toInt_le, ← Int64.toInt_inj, Int64.reduceToInt, Int32.toInt_toInt64, lg_cmp_ge, lg_cmp_le, lg_cmp_gt, lg_cmp_lt, lg_cmp_eq, Bool.false_eq_true, Bool.true_eq_false, reduceCtorEq, false_iff, true_iff, iff_true, iff_false, and_true, true_and, and_false, false_and, reduceIte, ite_true, ite_false, eq_self] at *)) <;> omega) ?_
                  refine wa_aload_n (i := 0) rfl rfl ?_
                  refine wa_getr ck_9 fl_9_22 ly_60 rf_60_3 ?_
                  refine wa_iload_n (i := 1) rfl rfl ?_
                  refine wa_iconst (v := 4) (by decide) ?_
                  refine wa_imul ?_
                  refine wa_top (fun v69 hv69 => ?_)
                  have tv69 := i_mulT hv69
                  clear hv69
                  refine wa_iload rfl ?_
                  refine wa_iadd ?_
                  refine wa_top (fun v70 hv70 => ?_)
                  have tv70 := i_addT hv70
                  clear hv70
                  refine wa_lald ly_64 (by ((try simp only [vp_in_iff, Int32.lt_iff_toInt_lt, Int32.le_iff_toInt_le, ← Int32.toInt_inj, Int32.reduceToInt, n_1, n_2, n_8, Int32.toNatClampNeg, Int64.lt_iff_toInt_lt, Int64.le_iff_toInt_le, ← Int64.toInt_inj, Int64.reduceToInt, Int32.toInt_toInt64, lg_cmp_ge, lg_cmp_le, lg_cmp_gt, lg_cmp_lt, lg_cmp_eq, Bool.false_eq_true, Bool.true_eq_false, reduceCtorEq, false_iff, true_iff, iff_true, iff_false, and_true, true_and, and_false, false_and, reduceIte, ite_true, ite_false, eq_self] at *)) <;> omega) ?_
                  refine wa_lmul ?_
                  refine wa_topl (fun v71 hv71 => ?_)
                  clear hv71
                  refine wa_lsub ?_
                  refine wa_topl (fun v72 hv72 => ?_)
                  clear hv72
                  refine wa_lstoreD (lv' := [(9, .long v72), (0, .ref 60), (1, .int a0), (2, .int a1), (3, .long (gl σ 65 (a0).toNatClampNeg)), (5, .long (-1)), (7, .int l7), (8, .int l8)]) (by decide) rfl ?_
                  refine wa_aload_n (i := 0) rfl rfl ?_
                  refine wa_getr ck_9 fl_9_22 ly_60 rf_60_3 ?_
                  refine wa_iload rfl ?_
                  refine wa_iconst (v := 4) (by decide) ?_
                  refine wa_imul ?_
                  refine wa_top (fun v73 hv73 => ?_)
                  have tv73 := i_mulT hv73
                  clear hv73
                  refine wa_iload rfl ?_
                  refine wa_iadd ?_
                  refine wa_top (fun v74 hv74 => ?_)
                  have tv74 := i_addT hv74
                  clear hv74
                  refine wa_aload_n (i := 0) rfl rfl ?_
                  refine wa_getl ck_9 fl_9_37 ly_60 ?_
                  refine wa_rwl (khi61_1) ?_
                  refine wa_lconst (v := 0) (by decide) ?_
                  refine wa_lcmp ?_
                  refine wa_top (fun v75 hv75 => ?_)
                  have tv75 := i_cmpT hv75
                  clear hv75
                  refine wa_if_ne o_X9_exchange_112 (by decide) (fun h76 => ?_) (fun h76 => ?_)
                  · refine wa_lload rfl ?_
                    refine wa_lload rfl ?_
                    refine wa_aload_n (i := 0) rfl rfl ?_
                    refine wa_getl ck_9 fl_9_37 ly_60 ?_
                    refine wa_rwl (khi61_1) ?_
                    refine wa_ldiv (by ((try simp only [vp_in_iff, Int32.lt_iff_toInt_lt, Int32.le_iff_toInt_le, ← Int32.toInt_inj, Int32.reduceToInt, n_1, n_2, n_8, Int32.toNatClampNeg, Int64.lt_iff_toInt_lt, Int64.le_iff_toInt_le, ← Int64.toInt_inj, Int64.reduceToInt, Int32.toInt_toInt64, lg_cmp_ge, lg_cmp_le, lg_cmp_gt, lg_cmp_lt, lg_cmp_eq, Bool.false_eq_true, Bool.true_eq_false, reduceCtorEq, false_iff, true_iff, iff_true, iff_false, and_true, true_and, and_false, false_and, reduceIte, ite_true, ite_false, eq_self] at *)) <;> omega) ?_
                    refine wa_topl (fun v77 hv77 => ?_)
                    clear hv77
                    refine wa_lmul ?_
                    refine wa_topl (fun v78 hv78 => ?_)
                    clear hv78
                    refine wa_last ly_64 (by ((try simp only [vp_in_iff, Int32.lt_iff_toInt_lt, Int32.le_iff_toInt_le, ← Int32.toInt_inj, Int32.reduceToInt, n_1, n_2, n_8, Int32.toNatClampNeg, Int64.lt_iff_toInt_lt, Int64.le_iff_toInt_le, ← Int64.toInt_inj, Int64.reduceToInt, Int32.toInt_toInt64, lg_cmp_ge, lg_cmp_le, lg_cmp_gt, lg_cmp_lt, lg_cmp_eq, Bool.false_eq_true, Bool.true_eq_false, reduceCtorEq, false_iff, true_iff, iff_true, iff_false, and_true, true_and, and_false, false_and, reduceIte, ite_true, ite_false, eq_self] at *)) <;> omega) (fun s79 hs79 => ?_)
                    have Fs79 : Sm 60 65 σ s79 := by rw [hs79]; exact Sm.sl Fs59 _ _ (by decide) (by decide)
                    refine wa_iinc (v := (1)) (lv' := fun y80 => [(8, .int y80), (9, .long v72), (0, .ref 60), (1, .int a0), (2, .int a1), (3, .long (gl σ 65 (a0).toNatClampNeg)), (5, .long (-1)), (7, .int l7)]) (by decide) rfl (by decide) (fun _ => rfl) (fun y80 hy80 => ?_)
                    have ty80 := i_addT hy80.symm
                    clear hy80
                    refine wa_goto o_X9_exchange_37 (by decide) ?_
                    refine wa_pick [2, 3, 4, 5, 6, 7, 0] rfl ?_
                    exact ih60 _ (by ((try simp only [vp_in_iff, Int32.lt_iff_toInt_lt, Int32.le_iff_toInt_le, ← Int32.toInt_inj, Int32.reduceToInt, n_1, n_2, n_8, Int32.toNatClampNeg, Int64.lt_iff_toInt_lt, Int64.le_iff_toInt_le, ← Int64.toInt_inj, Int64.reduceToInt, Int32.toInt_toInt64, lg_cmp_ge, lg_cmp_le, lg_cmp_gt, lg_cmp_lt, lg_cmp_eq, Bool.false_eq_true, Bool.true_eq_false, reduceCtorEq, false_iff, true_iff, iff_true, iff_false, and_true, true_and, and_false, false_and, reduceIte, ite_true, ite_false, eq_self] at *)) <;> omega) _ _ ⟨Fs79, ((nx_gi_sl hs79).trans (khi61_0)), ((nxq_gl_sl hs79 (by decide)).trans (khi61_1)), (by ((try simp only [vp_in_iff, Int32.lt_iff_toInt_lt, Int32.le_iff_toInt_le, ← Int32.toInt_inj, Int32.reduceToInt, n_1, n_2, n_8, Int32.toNatClampNeg, Int64.lt_iff_toInt_lt, Int64.le_iff_toInt_le, ← Int64.toInt_inj, Int64.reduceToInt, Int32.toInt_toInt64, lg_cmp_ge, lg_cmp_le, lg_cmp_gt, lg_cmp_lt, lg_cmp_eq, Bool.false_eq_true, Bool.true_eq_false, reduceCtorEq, false_iff, true_iff, iff_true, iff_false, and_true, true_and, and_false, false_and, reduceIte, ite_true, ite_false, eq_self] at *)) <;> omega), trivial⟩ rfl
                  · refine wa_lconst (v := 0) (by decide) ?_
                    refine wa_goto o_X9_exchange_122 (by decide) ?_
                    refine wa_last ly_64 (by ((try simp only [vp_in_iff, Int32.lt_iff_toInt_lt, Int32.le_iff_toInt_le, ← Int32.toInt_inj, Int32.reduceToInt, n_1, n_2, n_8, Int32.toNatClampNeg, Int64.lt_iff_toInt_lt, Int64.le_iff_toInt_le, ← Int64.toInt_inj, Int64.reduceToInt, Int32.toInt_toInt64, lg_cmp_ge, lg_cmp_le, lg_cmp_gt, lg_cmp_lt, lg_cmp_eq, Bool.false_eq_true, Bool.true_eq_false, reduceCtorEq, false_iff, true_iff, iff_true, iff_false, and_true, true_and, and_false, false_and, reduceIte, ite_true, ite_false, eq_self] at *)) <;> omega) (fun s81 hs81 => ?_)
                    have Fs81 : Sm 60 65 σ s81 := by rw [hs81]; exact Sm.sl Fs59 _ _ (by decide) (by decide)
                    refine wa_iinc (v := (1)) (lv' := fun y82 => [(8, .int y82), (9, .long v72), (0, .ref 60), (1, .int a0), (2, .int a1), (3, .long (gl σ 65 (a0).toNatClampNeg)), (5, .long (-1)), (7, .int l7)]) (by decide) rfl (by decide) (fun _ => rfl) (fun y82 hy82 => ?_)
                    have ty82 := i_addT hy82.symm
                    clear hy82
                    refine wa_goto o_X9_exchange_37 (by decide) ?_
                    refine wa_pick [2, 3, 4, 5, 6, 7, 0] rfl ?_
                    exact ih60 _ (by ((try simp only [vp_in_iff, Int32.lt_iff_toInt_lt, Int32.le_iff_toInt_le, ← Int32.toInt_inj, Int32.reduceToInt, n_1, n_2, n_8, Int32.toNatClampNeg, Int64.lt_iff_toInt_lt, Int64.le_iff_toInt_le, ← Int64.toInt_inj, Int64.reduceToInt, Int32.toInt_toInt64, lg_cmp_ge, lg_cmp_le, lg_cmp_gt, lg_cmp_lt, lg_cmp_eq, Bool.false_eq_true, Bool.true_eq_false, reduceCtorEq, false_iff, true_iff, iff_true, iff_false, and_true, true_and, and_false, false_and, reduceIte, ite_true, ite_false, eq_self] at *)) <;> omega) _ _ ⟨Fs81, ((nx_gi_sl hs81).trans (khi61_0)), ((nxq_gl_sl hs81 (by decide)).trans (khi61_1)), (by ((try simp only [vp_in_iff, Int32.lt_iff_toInt_lt, Int32.le_iff_toInt_le, ← Int32.toInt_inj, Int32.reduceToInt, n_1, n_2, n_8, Int32.toNatClampNeg, Int64.lt_iff_toInt_lt, Int64.le_iff_toInt_le, ← Int64.toInt_inj, Int64.reduceToInt, Int32.toInt_toInt64, lg_cmp_ge, lg_cmp_le, lg_cmp_gt, lg_cmp_lt, lg_cmp_eq, Bool.false_eq_true, Bool.true_eq_false, reduceCtorEq, false_iff, true_iff, iff_true, iff_false, and_true, true_and, and_false, false_and, reduceIte, ite_true, ite_false, eq_self] at *)) <;> omega), trivial⟩ rfl
          exact hi61 _ _ _ ⟨Fs43, (khi45_0), (khi45_1), (by ((try simp only [vp_in_iff, Int32.lt_iff_toInt_lt, Int32.le_iff_toInt_le, ← Int32.toInt_inj, Int32.reduceToInt, n_1, n_2, n_8, Int32.toNatClampNeg, Int64.lt_iff_toInt_lt, Int64.le_iff_toInt_le, ← Int64.toInt_inj, Int64.reduceToInt, Int32.toInt_toInt64, lg_cmp_ge, lg_cmp_le, lg_cmp_gt, lg_cmp_lt, lg_cmp_eq, Bool.false_eq_true, Bool.true_eq_false, reduceCtorEq, false_iff, true_iff, iff_true, iff_false, and_true, true_and, and_false, false_and, reduceIte, ite_true, ite_false, eq_self] at *)) <;> omega), trivial⟩ rfl
    exact hi45 _ _ _ ⟨(Sm.rf 60 65 σ), (rfl), (rfl), (by ((try simp only [vp_in_iff, Int32.lt_iff_toInt_lt, Int32.le_iff_toInt_le, ← Int32.toInt_inj, Int32.reduceToInt, n_1, n_2, n_8, Int32.toNatClampNeg, Int64.lt_iff_toInt_lt, Int64.le_iff_toInt_le, ← Int64.toInt_inj, Int64.reduceToInt, Int32.toInt_toInt64, lg_cmp_ge, lg_cmp_le, lg_cmp_gt, lg_cmp_lt, lg_cmp_eq, Bool.false_eq_true, Bool.true_eq_false, reduceCtorEq, false_iff, true_iff, iff_true, iff_false, and_true, true_and, and_false, false_and, reduceIte, ite_true, ite_false, eq_self] at *)) <;> omega), trivial⟩ rfl
set_option maxHeartbeats 4000000 in
theorem sp_X9_solve (G : kG9) {d : Nat} (hd : 4 ≤ d) (σ : St) (r1 : 0 ≤ (gi σ 60 12).toInt ∧ (gi σ 60 12).toInt ≤ 4) : Ct G M_X9_solve d [.ref 60] σ (fun r σ' => ∃ x : Int32, r = some (.int x) ∧ Sm 60 68 σ σ' ∧ (0 ≤ (gi σ' 60 12).toInt ∧ (gi σ' 60 12).toInt ≤ 4) ∧ True) := by
  refine wa_start (by decide) rfl (Nat.le_of_ble_eq_true rfl) (lv := [(0, .ref 60)]) rfl o_X9_solve_0 rfl ?_
  refine wa_aload_n (i := 0) rfl rfl ?_
  refine wa_Vv (d9 := d - 1) [] [] (sp_X9_beginEndless G (d := d - 1) (by omega) σ  (by first | assumption | exact Or.inl rfl | exact Or.inr rfl | (((try simp only [vp_in_iff, Int32.lt_iff_toInt_lt, Int32.le_iff_toInt_le, ← Int32.toInt_inj, Int32.reduceToInt, n_1, n_2, n_8, Int32.toNatClampNeg, Int64.lt_iff_toInt_lt, Int64.le_iff_toInt_le, ← Int64.toInt_inj, Int64.reduceToInt, Int32.toInt_toInt64, lg_cmp_ge, lg_cmp_le, lg_cmp_gt, lg_cmp_lt, lg_cmp_eq, Bool.false_eq_true, Bool.true_eq_false, reduceCtorEq, false_iff, true_iff, iff_true, iff_false, and_true, true_and, and_false, false_and, reduceIte, ite_true, ite_false, eq_self] at *)) <;> omega))) (rfl) rfl rfl (zr (by omega)) mk_X9_beginEndless ly_60 ml_9_124 (Nat.le_of_ble_eq_true rfl) (fun s1 hs1 => ?_)
  obtain ⟨fs1, cx2_1, -⟩ := hs1
  have Fs1 := Sm.tr (Sm.rf 60 68 σ) (Sm.wd fs1 (lo' := 60) (hi' := 68) (by decide) (by decide))
  refine wa_iconst (v := 0) (by decide) ?_
  refine wa_istore_nD (lv' := [(1, .int 0), (0, .ref 60)]) (i := 1) rfl (by decide) rfl ?_
  refine wa_pick [1, 0] rfl ?_
  have hi5 : ∀ (n9_6 : Nat) (l1 : Int32) (s3 : St), ((Sm 60 68 σ s3) ∧ (0 ≤ l1.toInt) ∧ (0 ≤ (gi s3 60 12).toInt ∧ (gi s3 60 12).toInt ≤ 4) ∧ (True)) → (2147483647 - l1.toInt).toNat = n9_6 → WA G M_X9_solve (ZM G M_X9_solve d (fun r σ' => ∃ x : Int32, r = some (.int x) ∧ Sm 60 68 σ σ' ∧ (0 ≤ (gi σ' 60 12).toInt ∧ (gi σ' 60 12).toInt ≤ 4) ∧ True)) B_X9_solve_6 [(0, .ref 60), (1, .int l1)] [] s3 := by
    intro n9_6
    induction n9_6 using Nat.strongRecOn with
    | _ n9_6 ih4 =>
      intro l1 s3 i9 m9_6
      obtain ⟨Fs3, jhi5_0, jhi5_1, -⟩ := i9
      have ul1 := Int32.toInt_lt l1
      have wl1 := Int32.le_toInt l1
      refine wa_iload_n (i := 1) rfl rfl ?_
      refine wa_ldc (v := (1000000)) (allW_in (kT_7 _ (List.mem_of_getElem? (i := 182) rfl)) rfl) ?_
      refine wa_icmp_ge o_X9_solve_60 (by decide) (fun h6 => ?_) (fun h6 => ?_)
      · refine wa_iconst (v := 0) (by decide) ?_
        refine wa_ireturn rfl rfl ?_
        exact ⟨_, rfl, Fs3, (by first | assumption | (((try simp only [vp_in_iff, Int32.lt_iff_toInt_lt, Int32.le_iff_toInt_le, ← Int32.toInt_inj, Int32.reduceToInt, n_1, n_2, n_8, Int32.toNatClampNeg, Int64.lt_iff_toInt_lt, Int64.le_iff_toInt_le, ← Int64.toInt_inj, Int64.reduceToInt, Int32.toInt_toInt64, lg_cmp_ge, lg_cmp_le, lg_cmp_gt, lg_cmp_lt, lg_cmp_eq, Bool.false_eq_true, Bool.true_eq_false, reduceCtorEq, false_iff, true_iff, iff_true, iff_false, and_true, true_and, and_false, false_and, reduceIte, ite_true, ite_false, eq_self] at *)) <;> omega)), trivial⟩
      · have mh6 := nle_mx h6
        refine wa_aload_n (i := 0) rfl rfl ?_
        refine wa_Vv (d9 := d - 1) [] [] (sp_X9_locate G (d := d - 1) (by omega) s3  (by first | assumption | exact Or.inl rfl | exact Or.inr rfl | (((try simp only [vp_in_iff, Int32.lt_iff_toInt_lt, Int32.le_iff_toInt_le, ← Int32.toInt_inj, Int32.reduceToInt, n_1, n_2, n_8, Int32.toNatClampNeg, Int64.lt_iff_toInt_lt, Int64.le_iff_toInt_le, ← Int64.toInt_inj, Int64.reduceToInt, Int32.toInt_toInt64, lg_cmp_ge, lg_cmp_le, lg_cmp_gt, lg_cmp_lt, lg_cmp_eq, Bool.false_eq_true, Bool.true_eq_false, reduceCtorEq, false_iff, true_iff, iff_true, iff_false, and_true, true_and, and_false, false_and, reduceIte, ite_true, ite_false, eq_self] at *)) <;> omega))) (rfl) rfl rfl (zr (by omega)) mk_X9_locate ly_60 ml_9_128 (Nat.le_of_ble_eq_true rfl) (fun s7 hs7 => ?_)
        obtain ⟨fs7, cx8_1, -⟩ := hs7
        have Fs7 := Sm.tr Fs3 (Sm.wd fs7 (lo' := 60) (hi' := 68) (by decide) (by decide))
        refine wa_aload_n (i := 0) rfl rfl ?_
        refine wa_Vi (d9 := d - 1) [] [] (sp_X9_brokenRow G (d := d - 1) (by omega) s7  (by first | assumption | exact Or.inl rfl | exact Or.inr rfl | (((try simp only [vp_in_iff, Int32.lt_iff_toInt_lt, Int32.le_iff_toInt_le, ← Int32.toInt_inj, Int32.reduceToInt, n_1, n_2, n_8, Int32.toNatClampNeg, Int64.lt_iff_toInt_lt, Int64.le_iff_toInt_le, ← Int64.toInt_inj, Int64.reduceToInt, Int32.toInt_toInt64, lg_cmp_ge, lg_cmp_le, lg_cmp_gt, lg_cmp_lt, lg_cmp_eq, Bool.false_eq_true, Bool.true_eq_false, reduceCtorEq, false_iff, true_iff, iff_true, iff_false, and_true, true_and, and_false, false_and, reduceIte, ite_true, ite_false, eq_self] at *)) <;> omega))) (rfl) rfl rfl (zr (by omega)) mk_X9_brokenRow ly_60 ml_9_131 (Nat.le_of_ble_eq_true rfl) (fun x10 s9 hs9 => ?_)
        obtain ⟨zs9, -⟩ := pI hs9
        subst zs9
        refine wa_istore_nD (lv' := [(2, .int x10), (0, .ref 60), (1, .int l1)]) (i := 2) rfl (by decide) rfl ?_
        refine wa_iload_n (i := 2) rfl rfl ?_
        refine wa_iconst (v := (-1)) (by decide) ?_
        refine wa_icmp_ne o_X9_solve_31 (by decide) (fun h11 => ?_) (fun h11 => ?_)
        · refine wa_aload_n (i := 0) rfl rfl ?_
          refine wa_iload_n (i := 2) rfl rfl ?_
          refine wa_Vv (d9 := d - 1) [.int _] [] (sp_X9_mixOf G (d := d - 1) (by omega) s7 _ (by first | assumption | exact Or.inl rfl | exact Or.inr rfl | (((try simp only [vp_in_iff, Int32.lt_iff_toInt_lt, Int32.le_iff_toInt_le, ← Int32.toInt_inj, Int32.reduceToInt, n_1, n_2, n_8, Int32.toNatClampNeg, Int64.lt_iff_toInt_lt, Int64.le_iff_toInt_le, ← Int64.toInt_inj, Int64.reduceToInt, Int32.toInt_toInt64, lg_cmp_ge, lg_cmp_le, lg_cmp_gt, lg_cmp_lt, lg_cmp_eq, Bool.false_eq_true, Bool.true_eq_false, reduceCtorEq, false_iff, true_iff, iff_true, iff_false, and_true, true_and, and_false, false_and, reduceIte, ite_true, ite_false, eq_self] at *)) <;> omega))) (rfl) rfl rfl (zr (by omega)) mk_X9_mixOf ly_60 ml_9_137 (Nat.le_of_ble_eq_true rfl) (fun s12 hs12 => ?_)
          obtain ⟨fs12, -⟩ := hs12
          have Fs12 := Sm.tr Fs7 (Sm.wd fs12 (lo' := 60) (hi' := 68) (by decide) (by decide))
          refine wa_aload_n (i := 0) rfl rfl ?_
          refine wa_Vi (d9 := d - 1) [] [] (sp_X9_leaving G (d := d - 1) (by omega) s12  (by rw [Sm.gi fs12 12 (Or.inl (by decide))]; first | assumption | exact Or.inl rfl | exact Or.inr rfl | (((try simp only [vp_in_iff, Int32.lt_iff_toInt_lt, Int32.le_iff_toInt_le, ← Int32.toInt_inj, Int32.reduceToInt, n_1, n_2, n_8, Int32.toNatClampNeg, Int64.lt_iff_toInt_lt, Int64.le_iff_toInt_le, ← Int64.toInt_inj, Int64.reduceToInt, Int32.toInt_toInt64, lg_cmp_ge, lg_cmp_le, lg_cmp_gt, lg_cmp_lt, lg_cmp_eq, Bool.false_eq_true, Bool.true_eq_false, reduceCtorEq, false_iff, true_iff, iff_true, iff_false, and_true, true_and, and_false, false_and, reduceIte, ite_true, ite_false, eq_self] at *)) <;> omega))) (rfl) rfl rfl (zr (by omega)) mk_X9_leaving ly_60 ml_9_140 (Nat.le_of_ble_eq_true rfl) (fun x15 s14 hs14 => ?_)
          obtain ⟨zs14, cx15_1, -⟩ := pI hs14
          subst zs14
          refine wa_istore_nD (lv' := [(3, .int x15), (2, .int x10), (0, .ref 60), (1, .int l1)]) (i := 3) rfl (by decide) rfl ?_
          refine wa_iload_n (i := 3) rfl rfl ?_
          refine wa_iconst (v := (-1)) (by decide) ?_
          refine wa_icmp_ne o_X9_solve_48 (by decide) (fun h16 => ?_) (fun h16 => ?_)
          · refine wa_aload_n (i := 0) rfl rfl ?_
            refine wa_iload_n (i := 3) rfl rfl ?_
            refine wa_iload_n (i := 2) rfl rfl ?_
            refine wa_Vv (d9 := d - 1) [.int _, .int _] [] (sp_X9_exchange G (d := d - 1) (by omega) s12 _ _ (by ((try simp only [vp_in_iff, Int32.lt_iff_toInt_lt, Int32.le_iff_toInt_le, ← Int32.toInt_inj, Int32.reduceToInt, n_1, n_2, n_8, Int32.toNatClampNeg, Int64.lt_iff_toInt_lt, Int64.le_iff_toInt_le, ← Int64.toInt_inj, Int64.reduceToInt, Int32.toInt_toInt64, lg_cmp_ge, lg_cmp_le, lg_cmp_gt, lg_cmp_lt, lg_cmp_eq, Bool.false_eq_true, Bool.true_eq_false, reduceCtorEq, false_iff, true_iff, iff_true, iff_false, and_true, true_and, and_false, false_and, reduceIte, ite_true, ite_false, eq_self] at *)) <;> omega) (by rw [Sm.gi fs12 12 (Or.inl (by decide))]; first | assumption | exact Or.inl rfl | exact Or.inr rfl | (((try simp only [vp_in_iff, Int32.lt_iff_toInt_lt, Int32.le_iff_toInt_le, ← Int32.toInt_inj, Int32.reduceToInt, n_1, n_2, n_8, Int32.toNatClampNeg, Int64.lt_iff_toInt_lt, Int64.le_iff_toInt_le, ← Int64.toInt_inj, Int64.reduceToInt, Int32.toInt_toInt64, lg_cmp_ge, lg_cmp_le, lg_cmp_gt, lg_cmp_lt, lg_cmp_eq, Bool.false_eq_true, Bool.true_eq_false, reduceCtorEq, false_iff, true_iff, iff_true, iff_false, and_true, true_and, and_false, false_and, reduceIte, ite_true, ite_false, eq_self] at *)) <;> omega))) (rfl) rfl rfl (zr (by omega)) mk_X9_exchange ly_60 ml_9_143 (Nat.le_of_ble_eq_true rfl) (fun s17 hs17 => ?_)
            obtain ⟨fs17, cx18_1, -⟩ := hs17
            have Fs17 := Sm.tr Fs12 (Sm.wd fs17 (lo' := 60) (hi' := 68) (by decide) (by decide))
            refine wa_iinc (v := (1)) (lv' := fun y19 => [(1, .int y19), (3, .int x15), (2, .int x10), (0, .ref 60)]) (by decide) rfl (by decide) (fun _ => rfl) (fun y19 hy19 => ?_)
            have ty19 := i_addT hy19.symm
            clear hy19
            refine wa_goto o_X9_solve_6 (by decide) ?_
            refine wa_pick [3, 0] rfl ?_
            exact ih4 _ (by ((try simp only [vp_in_iff, Int32.lt_iff_toInt_lt, Int32.le_iff_toInt_le, ← Int32.toInt_inj, Int32.reduceToInt, n_1, n_2, n_8, Int32.toNatClampNeg, Int64.lt_iff_toInt_lt, Int64.le_iff_toInt_le, ← Int64.toInt_inj, Int64.reduceToInt, Int32.toInt_toInt64, lg_cmp_ge, lg_cmp_le, lg_cmp_gt, lg_cmp_lt, lg_cmp_eq, Bool.false_eq_true, Bool.true_eq_false, reduceCtorEq, false_iff, true_iff, iff_true, iff_false, and_true, true_and, and_false, false_and, reduceIte, ite_true, ite_false, eq_self] at *)) <;> omega) _ _ ⟨Fs17, (by ((try simp only [vp_in_iff, Int32.lt_iff_toInt_lt, Int32.le_iff_toInt_le, ← Int32.toInt_inj, Int32.reduceToInt, n_1, n_2, n_8, Int32.toNatClampNeg, Int64.lt_iff_toInt_lt, Int64.le_iff_toInt_le, ← Int64.toInt_inj, Int64.reduceToInt, Int32.toInt_toInt64, lg_cmp_ge, lg_cmp_le, lg_cmp_gt, lg_cmp_lt, lg_cmp_eq, Bool.false_eq_true, Bool.true_eq_false, reduceCtorEq, false_iff, true_iff, iff_true, iff_false, and_true, true_and, and_false, false_and, reduceIte, ite_true, ite_false, eq_self] at *)) <;> omega), (by first | assumption | (((try simp only [vp_in_iff, Int32.lt_iff_toInt_lt, Int32.le_iff_toInt_le, ← Int32.toInt_inj, Int32.reduceToInt, n_1, n_2, n_8, Int32.toNatClampNeg, Int64.lt_iff_toInt_lt, Int64.le_iff_toInt_le, ← Int64.toInt_inj, Int64.reduceToInt, Int32.toInt_toInt64, lg_cmp_ge, lg_cmp_le, lg_cmp_gt, lg_cmp_lt, lg_cmp_eq, Bool.false_eq_true, Bool.true_eq_false, reduceCtorEq, false_iff, true_iff, iff_true, iff_false, and_true, true_and, and_false, false_and, reduceIte, ite_true, ite_false, eq_self] at *)) <;> omega)), trivial⟩ rfl
          · refine wa_iconst (v := 0) (by decide) ?_
            refine wa_ireturn rfl rfl ?_
            exact ⟨_, rfl, Fs12, (by rw [Sm.gi fs12 12 (Or.inl (by decide))]; first | assumption | (((try simp only [vp_in_iff, Int32.lt_iff_toInt_lt, Int32.le_iff_toInt_le, ← Int32.toInt_inj, Int32.reduceToInt, n_1, n_2, n_8, Int32.toNatClampNeg, Int64.lt_iff_toInt_lt, Int64.le_iff_toInt_le, ← Int64.toInt_inj, Int64.reduceToInt, Int32.toInt_toInt64, lg_cmp_ge, lg_cmp_le, lg_cmp_gt, lg_cmp_lt, lg_cmp_eq, Bool.false_eq_true, Bool.true_eq_false, reduceCtorEq, false_iff, true_iff, iff_true, iff_false, and_true, true_and, and_false, false_and, reduceIte, ite_true, ite_false, eq_self] at *)) <;> omega)), trivial⟩
        · refine wa_aload_n (i := 0) rfl rfl ?_
          refine wa_Vi (d9 := d - 1) [] [] (sp_X9_verdict G (d := d - 1) (by omega) s7  (by first | assumption | exact Or.inl rfl | exact Or.inr rfl | (((try simp only [vp_in_iff, Int32.lt_iff_toInt_lt, Int32.le_iff_toInt_le, ← Int32.toInt_inj, Int32.reduceToInt, n_1, n_2, n_8, Int32.toNatClampNeg, Int64.lt_iff_toInt_lt, Int64.le_iff_toInt_le, ← Int64.toInt_inj, Int64.reduceToInt, Int32.toInt_toInt64, lg_cmp_ge, lg_cmp_le, lg_cmp_gt, lg_cmp_lt, lg_cmp_eq, Bool.false_eq_true, Bool.true_eq_false, reduceCtorEq, false_iff, true_iff, iff_true, iff_false, and_true, true_and, and_false, false_and, reduceIte, ite_true, ite_false, eq_self] at *)) <;> omega))) (rfl) rfl rfl (zr (by omega)) mk_X9_verdict ly_60 ml_9_134 (Nat.le_of_ble_eq_true rfl) (fun x21 s20 hs20 => ?_)
          obtain ⟨zs20, -⟩ := pI hs20
          subst zs20
          refine wa_ireturn rfl rfl ?_
          exact ⟨_, rfl, Fs7, (by first | assumption | (((try simp only [vp_in_iff, Int32.lt_iff_toInt_lt, Int32.le_iff_toInt_le, ← Int32.toInt_inj, Int32.reduceToInt, n_1, n_2, n_8, Int32.toNatClampNeg, Int64.lt_iff_toInt_lt, Int64.le_iff_toInt_le, ← Int64.toInt_inj, Int64.reduceToInt, Int32.toInt_toInt64, lg_cmp_ge, lg_cmp_le, lg_cmp_gt, lg_cmp_lt, lg_cmp_eq, Bool.false_eq_true, Bool.true_eq_false, reduceCtorEq, false_iff, true_iff, iff_true, iff_false, and_true, true_and, and_false, false_and, reduceIte, ite_true, ite_false, eq_self] at *)) <;> omega)), trivial⟩
  exact hi5 _ _ _ ⟨Fs1, (by ((try simp only [vp_in_iff, Int32.lt_iff_toInt_lt, Int32.le_iff_toInt_le, ← Int32.toInt_inj, Int32.reduceToInt, n_1, n_2, n_8, Int32.toNatClampNeg, Int64.lt_iff_toInt_lt, Int64.le_iff_toInt_le, ← Int64.toInt_inj, Int64.reduceToInt, Int32.toInt_toInt64, lg_cmp_ge, lg_cmp_le, lg_cmp_gt, lg_cmp_lt, lg_cmp_eq, Bool.false_eq_true, Bool.true_eq_false, reduceCtorEq, false_iff, true_iff, iff_true, iff_false, and_true, true_and, and_false, false_and, reduceIte, ite_true, ite_false, eq_self] at *)) <;> omega), (by first | assumption | (((try simp only [vp_in_iff, Int32.lt_iff_toInt_lt, Int32.le_iff_toInt_le, ← Int32.toInt_inj, Int32.reduceToInt, n_1, n_2, n_8, Int32.toNatClampNeg, Int64.lt_iff_toInt_lt, Int64.le_iff_toInt_le, ← Int64.toInt_inj, Int64.reduceToInt, Int32.toInt_toInt64, lg_cmp_ge, lg_cmp_le, lg_cmp_gt, lg_cmp_lt, lg_cmp_eq, Bool.false_eq_true, Bool.true_eq_false, reduceCtorEq, false_iff, true_iff, iff_true, iff_false, and_true, true_and, and_false, false_and, reduceIte, ite_true, ite_false, eq_self] at *)) <;> omega)), trivial⟩ rfl
set_option maxHeartbeats 4000000 in
theorem sp_X9_goalAtPoint (G : kG9) {d : Nat} (hd : 0 ≤ d) (σ : St) (r1 : 0 ≤ (gi σ 60 12).toInt ∧ (gi σ 60 12).toInt ≤ 4) : Ct G M_X9_goalAtPoint d [.ref 60] σ (fun r σ' => ∃ x : Int64, r = some (.long x) ∧ σ = σ' ∧ True) := by
  refine wa_start (by decide) rfl (Nat.le_of_ble_eq_true rfl) (lv := [(0, .ref 60)]) rfl o_X9_goalAtPoint_0 rfl ?_
  refine wa_lconst (v := 0) (by decide) ?_
  refine wa_lstore_nD (lv' := [(1, .long 0), (0, .ref 60)]) (i := 1) rfl (by decide) rfl ?_
  refine wa_iconst (v := 0) (by decide) ?_
  refine wa_istore_nD (lv' := [(3, .int 0), (1, .long 0), (0, .ref 60)]) (i := 3) rfl (by decide) rfl ?_
  refine wa_pick [2, 1, 0] rfl ?_
  have hi2 : ∀ (n9_4 : Nat) (l1 : Int64) (l3 : Int32), ((0 ≤ l3.toInt) ∧ (True)) → (2147483647 - l3.toInt).toNat = n9_4 → WA G M_X9_goalAtPoint (ZM G M_X9_goalAtPoint d (fun r σ' => ∃ x : Int64, r = some (.long x) ∧ σ = σ' ∧ True)) B_X9_goalAtPoint_4 [(0, .ref 60), (1, .long l1), (3, .int l3)] [] σ := by
    intro n9_4
    induction n9_4 using Nat.strongRecOn with
    | _ n9_4 ih1 =>
      intro l1 l3  i9 m9_4
      obtain ⟨jhi2_0, -⟩ := i9
      have ul3 := Int32.toInt_lt l3
      have wl3 := Int32.le_toInt l3
      refine wa_iload_n (i := 3) rfl rfl ?_
      refine wa_aload_n (i := 0) rfl rfl ?_
      refine wa_geti ck_9 fl_9_62 ly_60 ?_
      refine wa_icmp_ge o_X9_goalAtPoint_34 (by decide) (fun h3 => ?_) (fun h3 => ?_)
      · refine wa_lload_n (i := 1) rfl rfl ?_
        refine wa_lreturn rfl rfl ?_
        exact ⟨_, rfl, rfl, trivial⟩
      · have mh3 := nle_mx h3
        refine wa_lload_n (i := 1) rfl rfl ?_
        refine wa_aload_n (i := 0) rfl rfl ?_
        refine wa_getr ck_9 fl_9_15 ly_60 rf_60_1 ?_
        refine wa_iload_n (i := 3) rfl rfl ?_
        refine wa_lald ly_62 (by ((try simp only [vp_in_iff, Int32.lt_iff_toInt_lt, Int32.le_iff_toInt_le, ← Int32.toInt_inj, Int32.reduceToInt, n_1, n_2, n_8, Int32.toNatClampNeg, Int64.lt_iff_toInt_lt, Int64.le_iff_toInt_le, ← Int64.toInt_inj, Int64.reduceToInt, Int32.toInt_toInt64, lg_cmp_ge, lg_cmp_le, lg_cmp_gt, lg_cmp_lt, lg_cmp_eq, Bool.false_eq_true, Bool.true_eq_false, reduceCtorEq, false_iff, true_iff, iff_true, iff_false, and_true, true_and, and_false, false_and, reduceIte, ite_true, ite_false, eq_self] at *)) <;> omega) ?_
        refine wa_aload_n (i := 0) rfl rfl ?_
        refine wa_getr ck_9 fl_9_28 ly_60 rf_60_5 ?_
        refine wa_iload_n (i := 3) rfl rfl ?_
        refine wa_lald ly_66 (by ((try simp only [vp_in_iff, Int32.lt_iff_toInt_lt, Int32.le_iff_toInt_le, ← Int32.toInt_inj, Int32.reduceToInt, n_1, n_2, n_8, Int32.toNatClampNeg, Int64.lt_iff_toInt_lt, Int64.le_iff_toInt_le, ← Int64.toInt_inj, Int64.reduceToInt, Int32.toInt_toInt64, lg_cmp_ge, lg_cmp_le, lg_cmp_gt, lg_cmp_lt, lg_cmp_eq, Bool.false_eq_true, Bool.true_eq_false, reduceCtorEq, false_iff, true_iff, iff_true, iff_false, and_true, true_and, and_false, false_and, reduceIte, ite_true, ite_false, eq_self] at *)) <;> omega) ?_
        refine wa_lmul ?_
        refine wa_topl (fun v4 hv4 => ?_)
        clear hv4
        refine wa_ladd ?_
        refine wa_topl (fun v5 hv5 => ?_)
        clear hv5
        refine wa_lstore_nD (lv' := [(1, .long v5), (0, .ref 60), (3, .int l3)]) (i := 1) rfl (by decide) rfl ?_
        refine wa_iinc (v := (1)) (lv' := fun y6 => [(3, .int y6), (1, .long v5), (0, .ref 60)]) (by decide) rfl (by decide) (fun _ => rfl) (fun y6 hy6 => ?_)
        have ty6 := i_addT hy6.symm
        clear hy6
        refine wa_goto o_X9_goalAtPoint_4 (by decide) ?_
        refine wa_pick [2, 1, 0] rfl ?_
        exact ih1 _ (by ((try simp only [vp_in_iff, Int32.lt_iff_toInt_lt, Int32.le_iff_toInt_le, ← Int32.toInt_inj, Int32.reduceToInt, n_1, n_2, n_8, Int32.toNatClampNeg, Int64.lt_iff_toInt_lt, Int64.le_iff_toInt_le, ← Int64.toInt_inj, Int64.reduceToInt, Int32.toInt_toInt64, lg_cmp_ge, lg_cmp_le, lg_cmp_gt, lg_cmp_lt, lg_cmp_eq, Bool.false_eq_true, Bool.true_eq_false, reduceCtorEq, false_iff, true_iff, iff_true, iff_false, and_true, true_and, and_false, false_and, reduceIte, ite_true, ite_false, eq_self] at *)) <;> omega) _ _ ⟨(by ((try simp only [vp_in_iff, Int32.lt_iff_toInt_lt, Int32.le_iff_toInt_le, ← Int32.toInt_inj, Int32.reduceToInt, n_1, n_2, n_8, Int32.toNatClampNeg, Int64.lt_iff_toInt_lt, Int64.le_iff_toInt_le, ← Int64.toInt_inj, Int64.reduceToInt, Int32.toInt_toInt64, lg_cmp_ge, lg_cmp_le, lg_cmp_gt, lg_cmp_lt, lg_cmp_eq, Bool.false_eq_true, Bool.true_eq_false, reduceCtorEq, false_iff, true_iff, iff_true, iff_false, and_true, true_and, and_false, false_and, reduceIte, ite_true, ite_false, eq_self] at *)) <;> omega), trivial⟩ rfl
  exact hi2 _ _ _ ⟨(by ((try simp only [vp_in_iff, Int32.lt_iff_toInt_lt, Int32.le_iff_toInt_le, ← Int32.toInt_inj, Int32.reduceToInt, n_1, n_2, n_8, Int32.toNatClampNeg, Int64.lt_iff_toInt_lt, Int64.le_iff_toInt_le, ← Int64.toInt_inj, Int64.reduceToInt, Int32.toInt_toInt64, lg_cmp_ge, lg_cmp_le, lg_cmp_gt, lg_cmp_lt, lg_cmp_eq, Bool.false_eq_true, Bool.true_eq_false, reduceCtorEq, false_iff, true_iff, iff_true, iff_false, and_true, true_and, and_false, false_and, reduceIte, ite_true, ite_false, eq_self] at *)) <;> omega), trivial⟩ rfl
set_option maxHeartbeats 4000000 in
theorem sp_X9_tellOne (G : kG9) {d : Nat} (hd : 1 ≤ d) (σ : St) (a0 : Int32) (a1 : Int64) (p1 : 0 ≤ a0.toInt ∧ a0.toInt < 9) : Ct G M_X9_tellOne d [.ref 60, .int a0, .long a1] σ (fun r σ' => Sm 68 69 σ σ' ∧ True) := by
  refine wa_start (by decide) rfl (Nat.le_of_ble_eq_true rfl) (lv := [(0, .ref 60), (1, .int a0), (2, .long a1)]) rfl o_X9_tellOne_0 rfl ?_
  have ua0 := Int32.toInt_lt a0
  have wa0 := Int32.le_toInt a0
  refine wa_lconst (v := 1) (by decide) ?_
  refine wa_lload_n (i := 2) rfl rfl ?_
  refine wa_aload_n (i := 0) rfl rfl ?_
  refine wa_getl ck_9 fl_9_41 ly_60 ?_
  refine wa_Sl (d9 := d - 1) [.long _, .long _] [.long 1] (sp_X11_commonDivisor G (d := d - 1) (by omega) σ _ _) (rfl) rfl rfl (zr (by omega)) mk_X11_commonDivisor ml_9_118 (Nat.le_of_ble_eq_true rfl) (fun x2 s1 hs1 => ?_)
  obtain ⟨zs1, -⟩ := pL hs1
  subst zs1
  refine wa_maxL zs (allW_in (kT_7 _ (List.mem_of_getElem? (i := 236) rfl)) rfl) (Nat.le_of_ble_eq_true rfl) ?_
  refine wa_topl (fun v3 hv3 => ?_)
  have tv3 := i_maxL hv3
  clear hv3
  refine wa_lstoreD (lv' := [(4, .long v3), (0, .ref 60), (1, .int a0), (2, .long a1)]) (by decide) rfl ?_
  refine wa_iload_n (i := 1) rfl rfl ?_
  refine wa_if_lt o_X9_tellOne_54 (by decide) (fun h4 => ?_) (fun h4 => ?_)
  · refine wa_return (st := []) rfl rfl ?_
    exact ⟨(Sm.rf 68 69 σ), trivial⟩
  · refine wa_iload_n (i := 1) rfl rfl ?_
    refine wa_iconst (v := 1) (by decide) ?_
    refine wa_iadd ?_
    refine wa_top (fun v5 hv5 => ?_)
    have tv5 := i_addT hv5
    clear hv5
    refine wa_aload_n (i := 0) rfl rfl ?_
    refine wa_getr ck_9 fl_9_34 ly_60 rf_60_7 ?_
    refine wa_alen ly_68 (by decide) ?_
    refine wa_rw (show Int32.ofNat 10 = 10 from rfl) ?_
    refine wa_icmp_ge o_X9_tellOne_54 (by decide) (fun h6 => ?_) (fun h6 => ?_)
    · refine wa_return (st := []) rfl rfl ?_
      exact ⟨(Sm.rf 68 69 σ), trivial⟩
    · have mh6 := nle_mx h6
      refine wa_aload_n (i := 0) rfl rfl ?_
      refine wa_getr ck_9 fl_9_34 ly_60 rf_60_7 ?_
      refine wa_iload_n (i := 1) rfl rfl ?_
      refine wa_lload_n (i := 2) rfl rfl ?_
      refine wa_lload rfl ?_
      refine wa_ldiv (by ((try simp only [vp_in_iff, Int32.lt_iff_toInt_lt, Int32.le_iff_toInt_le, ← Int32.toInt_inj, Int32.reduceToInt, n_1, n_2, n_8, Int32.toNatClampNeg, Int64.lt_iff_toInt_lt, Int64.le_iff_toInt_le, ← Int64.toInt_inj, Int64.reduceToInt, Int32.toInt_toInt64, lg_cmp_ge, lg_cmp_le, lg_cmp_gt, lg_cmp_lt, lg_cmp_eq, Bool.false_eq_true, Bool.true_eq_false, reduceCtorEq, false_iff, true_iff, iff_true, iff_false, and_true, true_and, and_false, false_and, reduceIte, ite_true, ite_false, eq_self] at *)) <;> omega) ?_
      refine wa_topl (fun v7 hv7 => ?_)
      clear hv7
      refine wa_last ly_68 (by ((try simp only [vp_in_iff, Int32.lt_iff_toInt_lt, Int32.le_iff_toInt_le, ← Int32.toInt_inj, Int32.reduceToInt, n_1, n_2, n_8, Int32.toNatClampNeg, Int64.lt_iff_toInt_lt, Int64.le_iff_toInt_le, ← Int64.toInt_inj, Int64.reduceToInt, Int32.toInt_toInt64, lg_cmp_ge, lg_cmp_le, lg_cmp_gt, lg_cmp_lt, lg_cmp_eq, Bool.false_eq_true, Bool.true_eq_false, reduceCtorEq, false_iff, true_iff, iff_true, iff_false, and_true, true_and, and_false, false_and, reduceIte, ite_true, ite_false, eq_self] at *)) <;> omega) (fun s8 hs8 => ?_)
      have Fs8 : Sm 68 69 σ s8 := by rw [hs8]; exact Sm.sl (Sm.rf 68 69 σ) _ _ (by decide) (by decide)
      refine wa_aload_n (i := 0) rfl rfl ?_
      refine wa_getr ck_9 fl_9_34 ly_60 rf_60_7 ?_
      refine wa_iload_n (i := 1) rfl rfl ?_
      refine wa_iconst (v := 1) (by decide) ?_
      refine wa_iadd ?_
      refine wa_top (fun v9 hv9 => ?_)
      have tv9 := i_addT hv9
      clear hv9
      refine wa_aload_n (i := 0) rfl rfl ?_
      refine wa_getl ck_9 fl_9_41 ly_60 ?_
      refine wa_rwl (nxq_gl_sl hs8 (by decide)) ?_
      refine wa_lload rfl ?_
      refine wa_ldiv (by ((try simp only [vp_in_iff, Int32.lt_iff_toInt_lt, Int32.le_iff_toInt_le, ← Int32.toInt_inj, Int32.reduceToInt, n_1, n_2, n_8, Int32.toNatClampNeg, Int64.lt_iff_toInt_lt, Int64.le_iff_toInt_le, ← Int64.toInt_inj, Int64.reduceToInt, Int32.toInt_toInt64, lg_cmp_ge, lg_cmp_le, lg_cmp_gt, lg_cmp_lt, lg_cmp_eq, Bool.false_eq_true, Bool.true_eq_false, reduceCtorEq, false_iff, true_iff, iff_true, iff_false, and_true, true_and, and_false, false_and, reduceIte, ite_true, ite_false, eq_self] at *)) <;> omega) ?_
      refine wa_topl (fun v10 hv10 => ?_)
      clear hv10
      refine wa_last ly_68 (by ((try simp only [vp_in_iff, Int32.lt_iff_toInt_lt, Int32.le_iff_toInt_le, ← Int32.toInt_inj, Int32.reduceToInt, n_1, n_2, n_8, Int32.toNatClampNeg, Int64.lt_iff_toInt_lt, Int64.le_iff_toInt_le, ← Int64.toInt_inj, Int64.reduceToInt, Int32.toInt_toInt64, lg_cmp_ge, lg_cmp_le, lg_cmp_gt, lg_cmp_lt, lg_cmp_eq, Bool.false_eq_true, Bool.true_eq_false, reduceCtorEq, false_iff, true_iff, iff_true, iff_false, and_true, true_and, and_false, false_and, reduceIte, ite_true, ite_false, eq_self] at *)) <;> omega) (fun s11 hs11 => ?_)
      have Fs11 : Sm 68 69 σ s11 := by rw [hs11]; exact Sm.sl Fs8 _ _ (by decide) (by decide)
      refine wa_return (st := []) rfl rfl ?_
      exact ⟨Fs11, trivial⟩
set_option maxHeartbeats 4000000 in
theorem sp_X9_tell (G : kG9) {d : Nat} (hd : 5 ≤ d) (σ : St) (r1 : 0 ≤ (gi σ 60 12).toInt ∧ (gi σ 60 12).toInt ≤ 4) : Ct G M_X9_tell d [.ref 60] σ (fun r σ' => ∃ x : Int32, r = some (.int x) ∧ Sm 60 69 σ σ' ∧ (0 ≤ (gi σ' 60 12).toInt ∧ (gi σ' 60 12).toInt ≤ 4) ∧ True) := by
  refine wa_start (by decide) rfl (Nat.le_of_ble_eq_true rfl) (lv := [(0, .ref 60)]) rfl o_X9_tell_0 rfl ?_
  refine wa_aload_n (i := 0) rfl rfl ?_
  refine wa_Vi (d9 := d - 1) [] [] (sp_X9_solve G (d := d - 1) (by omega) σ  (by first | assumption | exact Or.inl rfl | exact Or.inr rfl | (((try simp only [vp_in_iff, Int32.lt_iff_toInt_lt, Int32.le_iff_toInt_le, ← Int32.toInt_inj, Int32.reduceToInt, n_1, n_2, n_8, Int32.toNatClampNeg, Int64.lt_iff_toInt_lt, Int64.le_iff_toInt_le, ← Int64.toInt_inj, Int64.reduceToInt, Int32.toInt_toInt64, lg_cmp_ge, lg_cmp_le, lg_cmp_gt, lg_cmp_lt, lg_cmp_eq, Bool.false_eq_true, Bool.true_eq_false, reduceCtorEq, false_iff, true_iff, iff_true, iff_false, and_true, true_and, and_false, false_and, reduceIte, ite_true, ite_false, eq_self] at *)) <;> omega))) (rfl) rfl rfl (zr (by omega)) mk_X9_solve ly_60 ml_9_103 (Nat.le_of_ble_eq_true rfl) (fun x2 s1 hs1 => ?_)
  obtain ⟨fs1, cx2_1, -⟩ := pI hs1
  have Fs1 := Sm.tr (Sm.rf 60 69 σ) (Sm.wd fs1 (lo' := 60) (hi' := 69) (by decide) (by decide))
  refine wa_istore_nD (lv' := [(1, .int x2), (0, .ref 60)]) (i := 1) rfl (by decide) rfl ?_
  refine wa_iload_n (i := 1) rfl rfl ?_
  refine wa_iconst (v := 1) (by decide) ?_
  refine wa_icmp_eq o_X9_tell_15 (by decide) (fun h3 => ?_) (fun h3 => ?_)
  · refine wa_aload_n (i := 0) rfl rfl ?_
    refine wa_iload_n (i := 1) rfl rfl ?_
    refine wa_iconst (v := 1) (by decide) ?_
    refine wa_icmp_ne o_X9_tell_32 (by decide) (fun h4 => ?_) (fun h4 => ?_)
    · refine wa_iconst (v := 2) (by decide) ?_
      refine wa_puti ck_9 fl_9_107 ly_60 (fun s5 hs5 => ?_)
      have Fs5 : Sm 60 69 σ s5 := by rw [hs5]; exact Sm.si Fs1 _ _ (by decide) (by decide)
      refine wa_aload_n (i := 0) rfl rfl ?_
      refine wa_iconst (v := 0) (by decide) ?_
      refine wa_aload_n (i := 0) rfl rfl ?_
      refine wa_Vl (d9 := d - 1) [] [.int 0, .ref 60] (sp_X9_goalAtPoint G (d := d - 1) (by omega) s5  (by rw [nxk_gi_si hs5 (by decide)]; first | assumption | exact Or.inl rfl | exact Or.inr rfl | (((try simp only [vp_in_iff, Int32.lt_iff_toInt_lt, Int32.le_iff_toInt_le, ← Int32.toInt_inj, Int32.reduceToInt, n_1, n_2, n_8, Int32.toNatClampNeg, Int64.lt_iff_toInt_lt, Int64.le_iff_toInt_le, ← Int64.toInt_inj, Int64.reduceToInt, Int32.toInt_toInt64, lg_cmp_ge, lg_cmp_le, lg_cmp_gt, lg_cmp_lt, lg_cmp_eq, Bool.false_eq_true, Bool.true_eq_false, reduceCtorEq, false_iff, true_iff, iff_true, iff_false, and_true, true_and, and_false, false_and, reduceIte, ite_true, ite_false, eq_self] at *)) <;> omega))) (rfl) rfl rfl (zr (by omega)) mk_X9_goalAtPoint ly_60 ml_9_110 (Nat.le_of_ble_eq_true rfl) (fun x7 s6 hs6 => ?_)
      obtain ⟨zs6, -⟩ := pL hs6
      subst zs6
      refine wa_aload_n (i := 0) rfl rfl ?_
      refine wa_getl ck_9 fl_9_63 ly_60 ?_
      refine wa_rwl (nx_gl_si hs5) ?_
      refine wa_aload_n (i := 0) rfl rfl ?_
      refine wa_getl ck_9 fl_9_41 ly_60 ?_
      refine wa_rwl (nx_gl_si hs5) ?_
      refine wa_lmul ?_
      refine wa_topl (fun v8 hv8 => ?_)
      clear hv8
      refine wa_ladd ?_
      refine wa_topl (fun v9 hv9 => ?_)
      clear hv9
      refine wa_Vv (d9 := d - 1) [.int _, .long _] [] (sp_X9_tellOne G (d := d - 1) (by omega) s5 _ _ (by ((try simp only [vp_in_iff, Int32.lt_iff_toInt_lt, Int32.le_iff_toInt_le, ← Int32.toInt_inj, Int32.reduceToInt, n_1, n_2, n_8, Int32.toNatClampNeg, Int64.lt_iff_toInt_lt, Int64.le_iff_toInt_le, ← Int64.toInt_inj, Int64.reduceToInt, Int32.toInt_toInt64, lg_cmp_ge, lg_cmp_le, lg_cmp_gt, lg_cmp_lt, lg_cmp_eq, Bool.false_eq_true, Bool.true_eq_false, reduceCtorEq, false_iff, true_iff, iff_true, iff_false, and_true, true_and, and_false, false_and, reduceIte, ite_true, ite_false, eq_self] at *)) <;> omega)) (rfl) rfl rfl (zr (by omega)) mk_X9_tellOne ly_60 ml_9_114 (Nat.le_of_ble_eq_true rfl) (fun s10 hs10 => ?_)
      obtain ⟨fs10, -⟩ := hs10
      have Fs10 := Sm.tr Fs5 (Sm.wd fs10 (lo' := 60) (hi' := 69) (by decide) (by decide))
      refine wa_iconst (v := 0) (by decide) ?_
      refine wa_istore_nD (lv' := [(2, .int 0), (1, .int x2), (0, .ref 60)]) (i := 2) rfl (by decide) rfl ?_
      refine wa_pick [2, 1, 0] rfl ?_
      have hi14 : ∀ (n9_57 : Nat) (l2 : Int32) (s12 : St), ((Sm 60 69 σ s12) ∧ (gi s12 60 12 = gi s1 60 12) ∧ (gl s12 60 8 = gl s1 60 8) ∧ (gl s12 60 10 = gl s1 60 10) ∧ (0 ≤ l2.toInt) ∧ (True)) → (2147483647 - l2.toInt).toNat = n9_57 → WA G M_X9_tell (ZM G M_X9_tell d (fun r σ' => ∃ x : Int32, r = some (.int x) ∧ Sm 60 69 σ σ' ∧ (0 ≤ (gi σ' 60 12).toInt ∧ (gi σ' 60 12).toInt ≤ 4) ∧ True)) B_X9_tell_57 [(0, .ref 60), (1, .int x2), (2, .int l2)] [] s12 := by
        intro n9_57
        induction n9_57 using Nat.strongRecOn with
        | _ n9_57 ih13 =>
          intro l2 s12 i9 m9_57
          obtain ⟨Fs12, khi14_0, khi14_1, khi14_2, jhi14_0, -⟩ := i9
          have ul2 := Int32.toInt_lt l2
          have wl2 := Int32.le_toInt l2
          refine wa_iload_n (i := 2) rfl rfl ?_
          refine wa_aload_n (i := 0) rfl rfl ?_
          refine wa_geti ck_9 fl_9_62 ly_60 ?_
          refine wa_rw (khi14_0) ?_
          refine wa_icmp_ge o_X9_tell_91 (by decide) (fun h15 => ?_) (fun h15 => ?_)
          · refine wa_iload_n (i := 1) rfl rfl ?_
            refine wa_ireturn rfl rfl ?_
            exact ⟨_, rfl, Fs12, (by rw [khi14_0]; first | assumption | (((try simp only [vp_in_iff, Int32.lt_iff_toInt_lt, Int32.le_iff_toInt_le, ← Int32.toInt_inj, Int32.reduceToInt, n_1, n_2, n_8, Int32.toNatClampNeg, Int64.lt_iff_toInt_lt, Int64.le_iff_toInt_le, ← Int64.toInt_inj, Int64.reduceToInt, Int32.toInt_toInt64, lg_cmp_ge, lg_cmp_le, lg_cmp_gt, lg_cmp_lt, lg_cmp_eq, Bool.false_eq_true, Bool.true_eq_false, reduceCtorEq, false_iff, true_iff, iff_true, iff_false, and_true, true_and, and_false, false_and, reduceIte, ite_true, ite_false, eq_self] at *)) <;> omega)), trivial⟩
          · have mh15 := nle_mx h15
            refine wa_iload_n (i := 1) rfl rfl ?_
            refine wa_iconst (v := 1) (by decide) ?_
            refine wa_icmp_ne o_X9_tell_91 (by decide) (fun h16 => ?_) (fun h16 => ?_)
            · refine wa_iload_n (i := 1) rfl rfl ?_
              refine wa_ireturn rfl rfl ?_
              exact ⟨_, rfl, Fs12, (by rw [khi14_0]; first | assumption | (((try simp only [vp_in_iff, Int32.lt_iff_toInt_lt, Int32.le_iff_toInt_le, ← Int32.toInt_inj, Int32.reduceToInt, n_1, n_2, n_8, Int32.toNatClampNeg, Int64.lt_iff_toInt_lt, Int64.le_iff_toInt_le, ← Int64.toInt_inj, Int64.reduceToInt, Int32.toInt_toInt64, lg_cmp_ge, lg_cmp_le, lg_cmp_gt, lg_cmp_lt, lg_cmp_eq, Bool.false_eq_true, Bool.true_eq_false, reduceCtorEq, false_iff, true_iff, iff_true, iff_false, and_true, true_and, and_false, false_and, reduceIte, ite_true, ite_false, eq_self] at *)) <;> omega)), trivial⟩
            · refine wa_aload_n (i := 0) rfl rfl ?_
              refine wa_iconst (v := 2) (by decide) ?_
              refine wa_iconst (v := 2) (by decide) ?_
              refine wa_iload_n (i := 2) rfl rfl ?_
              refine wa_imul ?_
              refine wa_top (fun v17 hv17 => ?_)
              have tv17 := i_mulT hv17
              clear hv17
              refine wa_iadd ?_
              refine wa_top (fun v18 hv18 => ?_)
              have tv18 := i_addT hv18
              clear hv18
              refine wa_aload_n (i := 0) rfl rfl ?_
              refine wa_getr ck_9 fl_9_28 ly_60 rf_60_5 ?_
              refine wa_iload_n (i := 2) rfl rfl ?_
              refine wa_lald ly_66 (by ((try simp only [vp_in_iff, Int32.lt_iff_toInt_lt, Int32.le_iff_toInt_le, ← Int32.toInt_inj, Int32.reduceToInt, n_1, n_2, n_8, Int32.toNatClampNeg, Int64.lt_iff_toInt_lt, Int64.le_iff_toInt_le, ← Int64.toInt_inj, Int64.reduceToInt, Int32.toInt_toInt64, lg_cmp_ge, lg_cmp_le, lg_cmp_gt, lg_cmp_lt, lg_cmp_eq, Bool.false_eq_true, Bool.true_eq_false, reduceCtorEq, false_iff, true_iff, iff_true, iff_false, and_true, true_and, and_false, false_and, reduceIte, ite_true, ite_false, eq_self] at *)) <;> omega) ?_
              refine wa_Vv (d9 := d - 1) [.int _, .long _] [] (sp_X9_tellOne G (d := d - 1) (by omega) s12 _ _ (by ((try simp only [vp_in_iff, Int32.lt_iff_toInt_lt, Int32.le_iff_toInt_le, ← Int32.toInt_inj, Int32.reduceToInt, n_1, n_2, n_8, Int32.toNatClampNeg, Int64.lt_iff_toInt_lt, Int64.le_iff_toInt_le, ← Int64.toInt_inj, Int64.reduceToInt, Int32.toInt_toInt64, lg_cmp_ge, lg_cmp_le, lg_cmp_gt, lg_cmp_lt, lg_cmp_eq, Bool.false_eq_true, Bool.true_eq_false, reduceCtorEq, false_iff, true_iff, iff_true, iff_false, and_true, true_and, and_false, false_and, reduceIte, ite_true, ite_false, eq_self] at *)) <;> omega)) (rfl) rfl rfl (zr (by omega)) mk_X9_tellOne ly_60 ml_9_114 (Nat.le_of_ble_eq_true rfl) (fun s19 hs19 => ?_)
              obtain ⟨fs19, -⟩ := hs19
              have Fs19 := Sm.tr Fs12 (Sm.wd fs19 (lo' := 60) (hi' := 69) (by decide) (by decide))
              refine wa_iinc (v := (1)) (lv' := fun y21 => [(2, .int y21), (0, .ref 60), (1, .int x2)]) (by decide) rfl (by decide) (fun _ => rfl) (fun y21 hy21 => ?_)
              have ty21 := i_addT hy21.symm
              clear hy21
              refine wa_goto o_X9_tell_57 (by decide) ?_
              refine wa_pick [1, 2, 0] rfl ?_
              exact ih13 _ (by ((try simp only [vp_in_iff, Int32.lt_iff_toInt_lt, Int32.le_iff_toInt_le, ← Int32.toInt_inj, Int32.reduceToInt, n_1, n_2, n_8, Int32.toNatClampNeg, Int64.lt_iff_toInt_lt, Int64.le_iff_toInt_le, ← Int64.toInt_inj, Int64.reduceToInt, Int32.toInt_toInt64, lg_cmp_ge, lg_cmp_le, lg_cmp_gt, lg_cmp_lt, lg_cmp_eq, Bool.false_eq_true, Bool.true_eq_false, reduceCtorEq, false_iff, true_iff, iff_true, iff_false, and_true, true_and, and_false, false_and, reduceIte, ite_true, ite_false, eq_self] at *)) <;> omega) _ _ ⟨Fs19, ((Sm.gi fs19 12 (Or.inl (by decide))).trans (khi14_0)), ((Sm.gl fs19 8 (Or.inl (by decide))).trans (khi14_1)), ((Sm.gl fs19 10 (Or.inl (by decide))).trans (khi14_2)), (by ((try simp only [vp_in_iff, Int32.lt_iff_toInt_lt, Int32.le_iff_toInt_le, ← Int32.toInt_inj, Int32.reduceToInt, n_1, n_2, n_8, Int32.toNatClampNeg, Int64.lt_iff_toInt_lt, Int64.le_iff_toInt_le, ← Int64.toInt_inj, Int64.reduceToInt, Int32.toInt_toInt64, lg_cmp_ge, lg_cmp_le, lg_cmp_gt, lg_cmp_lt, lg_cmp_eq, Bool.false_eq_true, Bool.true_eq_false, reduceCtorEq, false_iff, true_iff, iff_true, iff_false, and_true, true_and, and_false, false_and, reduceIte, ite_true, ite_false, eq_self] at *)) <;> omega), trivial⟩ rfl
      exact hi14 _ _ _ ⟨Fs10, ((Sm.gi fs10 12 (Or.inl (by decide))).trans (nxk_gi_si hs5 (by decide))), ((Sm.gl fs10 8 (Or.inl (by decide))).trans (nx_gl_si hs5)), ((Sm.gl fs10 10 (Or.inl (by decide))).trans (nx_gl_si hs5)), (by ((try simp only [vp_in_iff, Int32.lt_iff_toInt_lt, Int32.le_iff_toInt_le, ← Int32.toInt_inj, Int32.reduceToInt, n_1, n_2, n_8, Int32.toNatClampNeg, Int64.lt_iff_toInt_lt, Int64.le_iff_toInt_le, ← Int64.toInt_inj, Int64.reduceToInt, Int32.toInt_toInt64, lg_cmp_ge, lg_cmp_le, lg_cmp_gt, lg_cmp_lt, lg_cmp_eq, Bool.false_eq_true, Bool.true_eq_false, reduceCtorEq, false_iff, true_iff, iff_true, iff_false, and_true, true_and, and_false, false_and, reduceIte, ite_true, ite_false, eq_self] at *)) <;> omega), trivial⟩ rfl
    · refine wa_iconst (v := 2) (by decide) ?_
      refine wa_iconst (v := 2) (by decide) ?_
      refine wa_aload_n (i := 0) rfl rfl ?_
      refine wa_geti ck_9 fl_9_62 ly_60 ?_
      refine wa_imul ?_
      refine wa_top (fun v22 hv22 => ?_)
      have tv22 := i_mulT hv22
      clear hv22
      refine wa_iadd ?_
      refine wa_top (fun v23 hv23 => ?_)
      have tv23 := i_addT hv23
      clear hv23
      refine wa_goto o_X9_tell_33 (by decide) ?_
      refine wa_puti ck_9 fl_9_107 ly_60 (fun s24 hs24 => ?_)
      have Fs24 : Sm 60 69 σ s24 := by rw [hs24]; exact Sm.si Fs1 _ _ (by decide) (by decide)
      refine wa_aload_n (i := 0) rfl rfl ?_
      refine wa_iconst (v := 0) (by decide) ?_
      refine wa_aload_n (i := 0) rfl rfl ?_
      refine wa_Vl (d9 := d - 1) [] [.int 0, .ref 60] (sp_X9_goalAtPoint G (d := d - 1) (by omega) s24  (by rw [nxk_gi_si hs24 (by decide)]; first | assumption | exact Or.inl rfl | exact Or.inr rfl | (((try simp only [vp_in_iff, Int32.lt_iff_toInt_lt, Int32.le_iff_toInt_le, ← Int32.toInt_inj, Int32.reduceToInt, n_1, n_2, n_8, Int32.toNatClampNeg, Int64.lt_iff_toInt_lt, Int64.le_iff_toInt_le, ← Int64.toInt_inj, Int64.reduceToInt, Int32.toInt_toInt64, lg_cmp_ge, lg_cmp_le, lg_cmp_gt, lg_cmp_lt, lg_cmp_eq, Bool.false_eq_true, Bool.true_eq_false, reduceCtorEq, false_iff, true_iff, iff_true, iff_false, and_true, true_and, and_false, false_and, reduceIte, ite_true, ite_false, eq_self] at *)) <;> omega))) (rfl) rfl rfl (zr (by omega)) mk_X9_goalAtPoint ly_60 ml_9_110 (Nat.le_of_ble_eq_true rfl) (fun x26 s25 hs25 => ?_)
      obtain ⟨zs25, -⟩ := pL hs25
      subst zs25
      refine wa_aload_n (i := 0) rfl rfl ?_
      refine wa_getl ck_9 fl_9_63 ly_60 ?_
      refine wa_rwl (nx_gl_si hs24) ?_
      refine wa_aload_n (i := 0) rfl rfl ?_
      refine wa_getl ck_9 fl_9_41 ly_60 ?_
      refine wa_rwl (nx_gl_si hs24) ?_
      refine wa_lmul ?_
      refine wa_topl (fun v27 hv27 => ?_)
      clear hv27
      refine wa_ladd ?_
      refine wa_topl (fun v28 hv28 => ?_)
      clear hv28
      refine wa_Vv (d9 := d - 1) [.int _, .long _] [] (sp_X9_tellOne G (d := d - 1) (by omega) s24 _ _ (by ((try simp only [vp_in_iff, Int32.lt_iff_toInt_lt, Int32.le_iff_toInt_le, ← Int32.toInt_inj, Int32.reduceToInt, n_1, n_2, n_8, Int32.toNatClampNeg, Int64.lt_iff_toInt_lt, Int64.le_iff_toInt_le, ← Int64.toInt_inj, Int64.reduceToInt, Int32.toInt_toInt64, lg_cmp_ge, lg_cmp_le, lg_cmp_gt, lg_cmp_lt, lg_cmp_eq, Bool.false_eq_true, Bool.true_eq_false, reduceCtorEq, false_iff, true_iff, iff_true, iff_false, and_true, true_and, and_false, false_and, reduceIte, ite_true, ite_false, eq_self] at *)) <;> omega)) (rfl) rfl rfl (zr (by omega)) mk_X9_tellOne ly_60 ml_9_114 (Nat.le_of_ble_eq_true rfl) (fun s29 hs29 => ?_)
      obtain ⟨fs29, -⟩ := hs29
      have Fs29 := Sm.tr Fs24 (Sm.wd fs29 (lo' := 60) (hi' := 69) (by decide) (by decide))
      refine wa_iconst (v := 0) (by decide) ?_
      refine wa_istore_nD (lv' := [(2, .int 0), (1, .int x2), (0, .ref 60)]) (i := 2) rfl (by decide) rfl ?_
      refine wa_pick [2, 1, 0] rfl ?_
      have hi33 : ∀ (n9_57 : Nat) (l2 : Int32) (s31 : St), ((Sm 60 69 σ s31) ∧ (gi s31 60 12 = gi s1 60 12) ∧ (gl s31 60 8 = gl s1 60 8) ∧ (gl s31 60 10 = gl s1 60 10) ∧ (0 ≤ l2.toInt) ∧ (True)) → (2147483647 - l2.toInt).toNat = n9_57 → WA G M_X9_tell (ZM G M_X9_tell d (fun r σ' => ∃ x : Int32, r = some (.int x) ∧ Sm 60 69 σ σ' ∧ (0 ≤ (gi σ' 60 12).toInt ∧ (gi σ' 60 12).toInt ≤ 4) ∧ True)) B_X9_tell_57 [(0, .ref 60), (1, .int x2), (2, .int l2)] [] s31 := by
        intro n9_57
        induction n9_57 using Nat.strongRecOn with
        | _ n9_57 ih32 =>
          intro l2 s31 i9 m9_57
          obtain ⟨Fs31, khi33_0, khi33_1, khi33_2, jhi33_0, -⟩ := i9
          have ul2 := Int32.toInt_lt l2
          have wl2 := Int32.le_toInt l2
          refine wa_iload_n (i := 2) rfl rfl ?_
          refine wa_aload_n (i := 0) rfl rfl ?_
          refine wa_geti ck_9 fl_9_62 ly_60 ?_
          refine wa_rw (khi33_0) ?_
          refine wa_icmp_ge o_X9_tell_91 (by decide) (fun h34 => ?_) (fun h34 => ?_)
          · refine wa_iload_n (i := 1) rfl rfl ?_
            refine wa_ireturn rfl rfl ?_
            exact ⟨_, rfl, Fs31, (by rw [khi33_0]; first | assumption | (((try simp only [vp_in_iff, Int32.lt_iff_toInt_lt, Int32.le_iff_toInt_le, ← Int32.toInt_inj, Int32.reduceToInt, n_1, n_2, n_8, Int32.toNatClampNeg, Int64.lt_iff_toInt_lt, Int64.le_iff_toInt_le, ← Int64.toInt_inj, Int64.reduceToInt, Int32.toInt_toInt64, lg_cmp_ge, lg_cmp_le, lg_cmp_gt, lg_cmp_lt, lg_cmp_eq, Bool.false_eq_true, Bool.true_eq_false, reduceCtorEq, false_iff, true_iff, iff_true, iff_false, and_true, true_and, and_false, false_and, reduceIte, ite_true, ite_false, eq_self] at *)) <;> omega)), trivial⟩
          · have mh34 := nle_mx h34
            refine wa_iload_n (i := 1) rfl rfl ?_
            refine wa_iconst (v := 1) (by decide) ?_
            refine wa_icmp_ne o_X9_tell_91 (by decide) (fun h35 => ?_) (fun h35 => ?_)
            · refine wa_iload_n (i := 1) rfl rfl ?_
              refine wa_ireturn rfl rfl ?_
              exact ⟨_, rfl, Fs31, (by rw [khi33_0]; first | assumption | (((try simp only [vp_in_iff, Int32.lt_iff_toInt_lt, Int32.le_iff_toInt_le, ← Int32.toInt_inj, Int32.reduceToInt, n_1, n_2, n_8, Int32.toNatClampNeg, Int64.lt_iff_toInt_lt, Int64.le_iff_toInt_le, ← Int64.toInt_inj, Int64.reduceToInt, Int32.toInt_toInt64, lg_cmp_ge, lg_cmp_le, lg_cmp_gt, lg_cmp_lt, lg_cmp_eq, Bool.false_eq_true, Bool.true_eq_false, reduceCtorEq, false_iff, true_iff, iff_true, iff_false, and_true, true_and, and_false, false_and, reduceIte, ite_true, ite_false, eq_self] at *)) <;> omega)), trivial⟩
            · refine wa_aload_n (i := 0) rfl rfl ?_
              refine wa_iconst (v := 2) (by decide) ?_
              refine wa_iconst (v := 2) (by decide) ?_
              refine wa_iload_n (i := 2) rfl rfl ?_
              refine wa_imul ?_
              refine wa_top (fun v36 hv36 => ?_)
              have tv36 := i_mulT hv36
              clear hv36
              refine wa_iadd ?_
              refine wa_top (fun v37 hv37 => ?_)
              have tv37 := i_addT hv37
              clear hv37
              refine wa_aload_n (i := 0) rfl rfl ?_
              refine wa_getr ck_9 fl_9_28 ly_60 rf_60_5 ?_
              refine wa_iload_n (i := 2) rfl rfl ?_
              refine wa_lald ly_66 (by ((try simp only [vp_in_iff, Int32.lt_iff_toInt_lt, Int32.le_iff_toInt_le, ← Int32.toInt_inj, Int32.reduceToInt, n_1, n_2, n_8, Int32.toNatClampNeg, Int64.lt_iff_toInt_lt, Int64.le_iff_toInt_le, ← Int64.toInt_inj, Int64.reduceToInt, Int32.toInt_toInt64, lg_cmp_ge, lg_cmp_le, lg_cmp_gt, lg_cmp_lt, lg_cmp_eq, Bool.false_eq_true, Bool.true_eq_false, reduceCtorEq, false_iff, true_iff, iff_true, iff_false, and_true, true_and, and_false, false_and, reduceIte, ite_true, ite_false, eq_self] at *)) <;> omega) ?_
              refine wa_Vv (d9 := d - 1) [.int _, .long _] [] (sp_X9_tellOne G (d := d - 1) (by omega) s31 _ _ (by ((try simp only [vp_in_iff, Int32.lt_iff_toInt_lt, Int32.le_iff_toInt_le, ← Int32.toInt_inj, Int32.reduceToInt, n_1, n_2, n_8, Int32.toNatClampNeg, Int64.lt_iff_toInt_lt, Int64.le_iff_toInt_le, ← Int64.toInt_inj, Int64.reduceToInt, Int32.toInt_toInt64, lg_cmp_ge, lg_cmp_le, lg_cmp_gt, lg_cmp_lt, lg_cmp_eq, Bool.false_eq_true, Bool.true_eq_false, reduceCtorEq, false_iff, true_iff, iff_true, iff_false, and_true, true_and, and_false, false_and, reduceIte, ite_true, ite_false, eq_self] at *)) <;> omega)) (rfl) rfl rfl (zr (by omega)) mk_X9_tellOne ly_60 ml_9_114 (Nat.le_of_ble_eq_true rfl) (fun s38 hs38 => ?_)
              obtain ⟨fs38, -⟩ := hs38
              have Fs38 := Sm.tr Fs31 (Sm.wd fs38 (lo' := 60) (hi' := 69) (by decide) (by decide))
              refine wa_iinc (v := (1)) (lv' := fun y40 => [(2, .int y40), (0, .ref 60), (1, .int x2)]) (by decide) rfl (by decide) (fun _ => rfl) (fun y40 hy40 => ?_)
              have ty40 := i_addT hy40.symm
              clear hy40
              refine wa_goto o_X9_tell_57 (by decide) ?_
              refine wa_pick [1, 2, 0] rfl ?_
              exact ih32 _ (by ((try simp only [vp_in_iff, Int32.lt_iff_toInt_lt, Int32.le_iff_toInt_le, ← Int32.toInt_inj, Int32.reduceToInt, n_1, n_2, n_8, Int32.toNatClampNeg, Int64.lt_iff_toInt_lt, Int64.le_iff_toInt_le, ← Int64.toInt_inj, Int64.reduceToInt, Int32.toInt_toInt64, lg_cmp_ge, lg_cmp_le, lg_cmp_gt, lg_cmp_lt, lg_cmp_eq, Bool.false_eq_true, Bool.true_eq_false, reduceCtorEq, false_iff, true_iff, iff_true, iff_false, and_true, true_and, and_false, false_and, reduceIte, ite_true, ite_false, eq_self] at *)) <;> omega) _ _ ⟨Fs38, ((Sm.gi fs38 12 (Or.inl (by decide))).trans (khi33_0)), ((Sm.gl fs38 8 (Or.inl (by decide))).trans (khi33_1)), ((Sm.gl fs38 10 (Or.inl (by decide))).trans (khi33_2)), (by ((try simp only [vp_in_iff, Int32.lt_iff_toInt_lt, Int32.le_iff_toInt_le, ← Int32.toInt_inj, Int32.reduceToInt, n_1, n_2, n_8, Int32.toNatClampNeg, Int64.lt_iff_toInt_lt, Int64.le_iff_toInt_le, ← Int64.toInt_inj, Int64.reduceToInt, Int32.toInt_toInt64, lg_cmp_ge, lg_cmp_le, lg_cmp_gt, lg_cmp_lt, lg_cmp_eq, Bool.false_eq_true, Bool.true_eq_false, reduceCtorEq, false_iff, true_iff, iff_true, iff_false, and_true, true_and, and_false, false_and, reduceIte, ite_true, ite_false, eq_self] at *)) <;> omega), trivial⟩ rfl
      exact hi33 _ _ _ ⟨Fs29, ((Sm.gi fs29 12 (Or.inl (by decide))).trans (nxk_gi_si hs24 (by decide))), ((Sm.gl fs29 8 (Or.inl (by decide))).trans (nx_gl_si hs24)), ((Sm.gl fs29 10 (Or.inl (by decide))).trans (nx_gl_si hs24)), (by ((try simp only [vp_in_iff, Int32.lt_iff_toInt_lt, Int32.le_iff_toInt_le, ← Int32.toInt_inj, Int32.reduceToInt, n_1, n_2, n_8, Int32.toNatClampNeg, Int64.lt_iff_toInt_lt, Int64.le_iff_toInt_le, ← Int64.toInt_inj, Int64.reduceToInt, Int32.toInt_toInt64, lg_cmp_ge, lg_cmp_le, lg_cmp_gt, lg_cmp_lt, lg_cmp_eq, Bool.false_eq_true, Bool.true_eq_false, reduceCtorEq, false_iff, true_iff, iff_true, iff_false, and_true, true_and, and_false, false_and, reduceIte, ite_true, ite_false, eq_self] at *)) <;> omega), trivial⟩ rfl
  · refine wa_iload_n (i := 1) rfl rfl ?_
    refine wa_iconst (v := 3) (by decide) ?_
    refine wa_icmp_ne o_X9_tell_91 (by decide) (fun h41 => ?_) (fun h41 => ?_)
    · refine wa_iload_n (i := 1) rfl rfl ?_
      refine wa_ireturn rfl rfl ?_
      exact ⟨_, rfl, Fs1, (by first | assumption | (((try simp only [vp_in_iff, Int32.lt_iff_toInt_lt, Int32.le_iff_toInt_le, ← Int32.toInt_inj, Int32.reduceToInt, n_1, n_2, n_8, Int32.toNatClampNeg, Int64.lt_iff_toInt_lt, Int64.le_iff_toInt_le, ← Int64.toInt_inj, Int64.reduceToInt, Int32.toInt_toInt64, lg_cmp_ge, lg_cmp_le, lg_cmp_gt, lg_cmp_lt, lg_cmp_eq, Bool.false_eq_true, Bool.true_eq_false, reduceCtorEq, false_iff, true_iff, iff_true, iff_false, and_true, true_and, and_false, false_and, reduceIte, ite_true, ite_false, eq_self] at *)) <;> omega)), trivial⟩
    · refine wa_aload_n (i := 0) rfl rfl ?_
      refine wa_iload_n (i := 1) rfl rfl ?_
      refine wa_iconst (v := 1) (by decide) ?_
      refine wa_icmp_ne o_X9_tell_32 (by decide) (fun h42 => ?_) (fun h42 => ?_)
      · refine wa_iconst (v := 2) (by decide) ?_
        refine wa_puti ck_9 fl_9_107 ly_60 (fun s43 hs43 => ?_)
        have Fs43 : Sm 60 69 σ s43 := by rw [hs43]; exact Sm.si Fs1 _ _ (by decide) (by decide)
        refine wa_aload_n (i := 0) rfl rfl ?_
        refine wa_iconst (v := 0) (by decide) ?_
        refine wa_aload_n (i := 0) rfl rfl ?_
        refine wa_Vl (d9 := d - 1) [] [.int 0, .ref 60] (sp_X9_goalAtPoint G (d := d - 1) (by omega) s43  (by rw [nxk_gi_si hs43 (by decide)]; first | assumption | exact Or.inl rfl | exact Or.inr rfl | (((try simp only [vp_in_iff, Int32.lt_iff_toInt_lt, Int32.le_iff_toInt_le, ← Int32.toInt_inj, Int32.reduceToInt, n_1, n_2, n_8, Int32.toNatClampNeg, Int64.lt_iff_toInt_lt, Int64.le_iff_toInt_le, ← Int64.toInt_inj, Int64.reduceToInt, Int32.toInt_toInt64, lg_cmp_ge, lg_cmp_le, lg_cmp_gt, lg_cmp_lt, lg_cmp_eq, Bool.false_eq_true, Bool.true_eq_false, reduceCtorEq, false_iff, true_iff, iff_true, iff_false, and_true, true_and, and_false, false_and, reduceIte, ite_true, ite_false, eq_self] at *)) <;> omega))) (rfl) rfl rfl (zr (by omega)) mk_X9_goalAtPoint ly_60 ml_9_110 (Nat.le_of_ble_eq_true rfl) (fun x45 s44 hs44 => ?_)
        obtain ⟨zs44, -⟩ := pL hs44
        subst zs44
        refine wa_aload_n (i := 0) rfl rfl ?_
        refine wa_getl ck_9 fl_9_63 ly_60 ?_
        refine wa_rwl (nx_gl_si hs43) ?_
        refine wa_aload_n (i := 0) rfl rfl ?_
        refine wa_getl ck_9 fl_9_41 ly_60 ?_
        refine wa_rwl (nx_gl_si hs43) ?_
        refine wa_lmul ?_
        refine wa_topl (fun v46 hv46 => ?_)
        clear hv46
        refine wa_ladd ?_
        refine wa_topl (fun v47 hv47 => ?_)
        clear hv47
        refine wa_Vv (d9 := d - 1) [.int _, .long _] [] (sp_X9_tellOne G (d := d - 1) (by omega) s43 _ _ (by ((try simp only [vp_in_iff, Int32.lt_iff_toInt_lt, Int32.le_iff_toInt_le, ← Int32.toInt_inj, Int32.reduceToInt, n_1, n_2, n_8, Int32.toNatClampNeg, Int64.lt_iff_toInt_lt, Int64.le_iff_toInt_le, ← Int64.toInt_inj, Int64.reduceToInt, Int32.toInt_toInt64, lg_cmp_ge, lg_cmp_le, lg_cmp_gt, lg_cmp_lt, lg_cmp_eq, Bool.false_eq_true, Bool.true_eq_false, reduceCtorEq, false_iff, true_iff, iff_true, iff_false, and_true, true_and, and_false, false_and, reduceIte, ite_true, ite_false, eq_self] at *)) <;> omega)) (rfl) rfl rfl (zr (by omega)) mk_X9_tellOne ly_60 ml_9_114 (Nat.le_of_ble_eq_true rfl) (fun s48 hs48 => ?_)
        obtain ⟨fs48, -⟩ := hs48
        have Fs48 := Sm.tr Fs43 (Sm.wd fs48 (lo' := 60) (hi' := 69) (by decide) (by decide))
        refine wa_iconst (v := 0) (by decide) ?_
        refine wa_istore_nD (lv' := [(2, .int 0), (1, .int x2), (0, .ref 60)]) (i := 2) rfl (by decide) rfl ?_
        refine wa_pick [2, 1, 0] rfl ?_
        have hi52 : ∀ (n9_57 : Nat) (l2 : Int32) (s50 : St), ((Sm 60 69 σ s50) ∧ (gi s50 60 12 = gi s1 60 12) ∧ (gl s50 60 8 = gl s1 60 8) ∧ (gl s50 60 10 = gl s1 60 10) ∧ (0 ≤ l2.toInt) ∧ (True)) → (2147483647 - l2.toInt).toNat = n9_57 → WA G M_X9_tell (ZM G M_X9_tell d (fun r σ' => ∃ x : Int32, r = some (.int x) ∧ Sm 60 69 σ σ' ∧ (0 ≤ (gi σ' 60 12).toInt ∧ (gi σ' 60 12).toInt ≤ 4) ∧ True)) B_X9_tell_57 [(0, .ref 60), (1, .int x2), (2, .int l2)] [] s50 := by
          intro n9_57
          induction n9_57 using Nat.strongRecOn with
          | _ n9_57 ih51 =>
            intro l2 s50 i9 m9_57
            obtain ⟨Fs50, khi52_0, khi52_1, khi52_2, jhi52_0, -⟩ := i9
            have ul2 := Int32.toInt_lt l2
            have wl2 := Int32.le_toInt l2
            refine wa_iload_n (i := 2) rfl rfl ?_
            refine wa_aload_n (i := 0) rfl rfl ?_
            refine wa_geti ck_9 fl_9_62 ly_60 ?_
            refine wa_rw (khi52_0) ?_
            refine wa_icmp_ge o_X9_tell_91 (by decide) (fun h53 => ?_) (fun h53 => ?_)
            · refine wa_iload_n (i := 1) rfl rfl ?_
              refine wa_ireturn rfl rfl ?_
              exact ⟨_, rfl, Fs50, (by rw [khi52_0]; first | assumption | (((try simp only [vp_in_iff, Int32.lt_iff_toInt_lt, Int32.le_iff_toInt_le, ← Int32.toInt_inj, Int32.reduceToInt, n_1, n_2, n_8, Int32.toNatClampNeg, Int64.lt_iff_toInt_lt, Int64.le_iff_toInt_le, ← Int64.toInt_inj, Int64.reduceToInt, Int32.toInt_toInt64, lg_cmp_ge, lg_cmp_le, lg_cmp_gt, lg_cmp_lt, lg_cmp_eq, Bool.false_eq_true, Bool.true_eq_false, reduceCtorEq, false_iff, true_iff, iff_true, iff_false, and_true, true_and, and_false, false_and, reduceIte, ite_true, ite_false, eq_self] at *)) <;> omega)), trivial⟩
            · have mh53 := nle_mx h53
              refine wa_iload_n (i := 1) rfl rfl ?_
              refine wa_iconst (v := 1) (by decide) ?_
              refine wa_icmp_ne o_X9_tell_91 (by decide) (fun h54 => ?_) (fun h54 => ?_)
              · refine wa_iload_n (i := 1) rfl rfl ?_
                refine wa_ireturn rfl rfl ?_
                exact ⟨_, rfl, Fs50, (by rw [khi52_0]; first | assumption | (((try simp only [vp_in_iff, Int32.lt_iff_toInt_lt, Int32.le_iff_toInt_le, ← Int32.toInt_inj, Int32.reduceToInt, n_1, n_2, n_8, Int32.toNatClampNeg, Int64.lt_iff_toInt_lt, Int64.le_iff_toInt_le, ← Int64.toInt_inj, Int64.reduceToInt, Int32.toInt_toInt64, lg_cmp_ge, lg_cmp_le, lg_cmp_gt, lg_cmp_lt, lg_cmp_eq, Bool.false_eq_true, Bool.true_eq_false, reduceCtorEq, false_iff, true_iff, iff_true, iff_false, and_true, true_and, and_false, false_and, reduceIte, ite_true, ite_false, eq_self] at *)) <;> omega)), trivial⟩
              · refine wa_aload_n (i := 0) rfl rfl ?_
                refine wa_iconst (v := 2) (by decide) ?_
                refine wa_iconst (v := 2) (by decide) ?_
                refine wa_iload_n (i := 2) rfl rfl ?_
                refine wa_imul ?_
                refine wa_top (fun v55 hv55 => ?_)
                have tv55 := i_mulT hv55
                clear hv55
                refine wa_iadd ?_
                refine wa_top (fun v56 hv56 => ?_)
                have tv56 := i_addT hv56
                clear hv56
                refine wa_aload_n (i := 0) rfl rfl ?_
                refine wa_getr ck_9 fl_9_28 ly_60 rf_60_5 ?_
                refine wa_iload_n (i := 2) rfl rfl ?_
                refine wa_lald ly_66 (by ((try simp only [vp_in_iff, Int32.lt_iff_toInt_lt, Int32.le_iff_toInt_le, ← Int32.toInt_inj, Int32.reduceToInt, n_1, n_2, n_8, Int32.toNatClampNeg, Int64.lt_iff_toInt_lt, Int64.le_iff_toInt_le, ← Int64.toInt_inj, Int64.reduceToInt, Int32.toInt_toInt64, lg_cmp_ge, lg_cmp_le, lg_cmp_gt, lg_cmp_lt, lg_cmp_eq, Bool.false_eq_true, Bool.true_eq_false, reduceCtorEq, false_iff, true_iff, iff_true, iff_false, and_true, true_and, and_false, false_and, reduceIte, ite_true, ite_false, eq_self] at *)) <;> omega) ?_
                refine wa_Vv (d9 := d - 1) [.int _, .long _] [] (sp_X9_tellOne G (d := d - 1) (by omega) s50 _ _ (by ((try simp only [vp_in_iff, Int32.lt_iff_toInt_lt, Int32.le_iff_toInt_le, ← Int32.toInt_inj, Int32.reduceToInt, n_1, n_2, n_8, Int32.toNatClampNeg, Int64.lt_iff_toInt_lt, Int64.le_iff_toInt_le, ← Int64.toInt_inj, Int64.reduceToInt, Int32.toInt_toInt64, lg_cmp_ge, lg_cmp_le, lg_cmp_gt, lg_cmp_lt, lg_cmp_eq, Bool.false_eq_true, Bool.true_eq_false, reduceCtorEq, false_iff, true_iff, iff_true, iff_false, and_true, true_and, and_false, false_and, reduceIte, ite_true, ite_false, eq_self] at *)) <;> omega)) (rfl) rfl rfl (zr (by omega)) mk_X9_tellOne ly_60 ml_9_114 (Nat.le_of_ble_eq_true rfl) (fun s57 hs57 => ?_)
                obtain ⟨fs57, -⟩ := hs57
                have Fs57 := Sm.tr Fs50 (Sm.wd fs57 (lo' := 60) (hi' := 69) (by decide) (by decide))
                refine wa_iinc (v := (1)) (lv' := fun y59 => [(2, .int y59), (0, .ref 60), (1, .int x2)]) (by decide) rfl (by decide) (fun _ => rfl) (fun y59 hy59 => ?_)
                have ty59 := i_addT hy59.symm
                clear hy59
                refine wa_goto o_X9_tell_57 (by decide) ?_
                refine wa_pick [1, 2, 0] rfl ?_
                exact ih51 _ (by ((try simp only [vp_in_iff, Int32.lt_iff_toInt_lt, Int32.le_iff_toInt_le, ← Int32.toInt_inj, Int32.reduceToInt, n_1, n_2, n_8, Int32.toNatClampNeg, Int64.lt_iff_toInt_lt, Int64.le_iff_toInt_le, ← Int64.toInt_inj, Int64.reduceToInt, Int32.toInt_toInt64, lg_cmp_ge, lg_cmp_le, lg_cmp_gt, lg_cmp_lt, lg_cmp_eq, Bool.false_eq_true, Bool.true_eq_false, reduceCtorEq, false_iff, true_iff, iff_true, iff_false, and_true, true_and, and_false, false_and, reduceIte, ite_true, ite_false, eq_self] at *)) <;> omega) _ _ ⟨Fs57, ((Sm.gi fs57 12 (Or.inl (by decide))).trans (khi52_0)), ((Sm.gl fs57 8 (Or.inl (by decide))).trans (khi52_1)), ((Sm.gl fs57 10 (Or.inl (by decide))).trans (khi52_2)), (by ((try simp only [vp_in_iff, Int32.lt_iff_toInt_lt, Int32.le_iff_toInt_le, ← Int32.toInt_inj, Int32.reduceToInt, n_1, n_2, n_8, Int32.toNatClampNeg, Int64.lt_iff_toInt_lt, Int64.le_iff_toInt_le, ← Int64.toInt_inj, Int64.reduceToInt, Int32.toInt_toInt64, lg_cmp_ge, lg_cmp_le, lg_cmp_gt, lg_cmp_lt, lg_cmp_eq, Bool.false_eq_true, Bool.true_eq_false, reduceCtorEq, false_iff, true_iff, iff_true, iff_false, and_true, true_and, and_false, false_and, reduceIte, ite_true, ite_false, eq_self] at *)) <;> omega), trivial⟩ rfl
        exact hi52 _ _ _ ⟨Fs48, ((Sm.gi fs48 12 (Or.inl (by decide))).trans (nxk_gi_si hs43 (by decide))), ((Sm.gl fs48 8 (Or.inl (by decide))).trans (nx_gl_si hs43)), ((Sm.gl fs48 10 (Or.inl (by decide))).trans (nx_gl_si hs43)), (by ((try simp only [vp_in_iff, Int32.lt_iff_toInt_lt, Int32.le_iff_toInt_le, ← Int32.toInt_inj, Int32.reduceToInt, n_1, n_2, n_8, Int32.toNatClampNeg, Int64.lt_iff_toInt_lt, Int64.le_iff_toInt_le, ← Int64.toInt_inj, Int64.reduceToInt, Int32.toInt_toInt64, lg_cmp_ge, lg_cmp_le, lg_cmp_gt, lg_cmp_lt, lg_cmp_eq, Bool.false_eq_true, Bool.true_eq_false, reduceCtorEq, false_iff, true_iff, iff_true, iff_false, and_true, true_and, and_false, false_and, reduceIte, ite_true, ite_false, eq_self] at *)) <;> omega), trivial⟩ rfl
      · refine wa_iconst (v := 2) (by decide) ?_
        refine wa_iconst (v := 2) (by decide) ?_
        refine wa_aload_n (i := 0) rfl rfl ?_
        refine wa_geti ck_9 fl_9_62 ly_60 ?_
        refine wa_imul ?_
        refine wa_top (fun v60 hv60 => ?_)
        have tv60 := i_mulT hv60
        clear hv60
        refine wa_iadd ?_
        refine wa_top (fun v61 hv61 => ?_)
        have tv61 := i_addT hv61
        clear hv61
        refine wa_goto o_X9_tell_33 (by decide) ?_
        refine wa_puti ck_9 fl_9_107 ly_60 (fun s62 hs62 => ?_)
        have Fs62 : Sm 60 69 σ s62 := by rw [hs62]; exact Sm.si Fs1 _ _ (by decide) (by decide)
        refine wa_aload_n (i := 0) rfl rfl ?_
        refine wa_iconst (v := 0) (by decide) ?_
        refine wa_aload_n (i := 0) rfl rfl ?_
        refine wa_Vl (d9 := d - 1) [] [.int 0, .ref 60] (sp_X9_goalAtPoint G (d := d - 1) (by omega) s62  (by rw [nxk_gi_si hs62 (by decide)]; first | assumption | exact Or.inl rfl | exact Or.inr rfl | (((try simp only [vp_in_iff, Int32.lt_iff_toInt_lt, Int32.le_iff_toInt_le, ← Int32.toInt_inj, Int32.reduceToInt, n_1, n_2, n_8, Int32.toNatClampNeg, Int64.lt_iff_toInt_lt, Int64.le_iff_toInt_le, ← Int64.toInt_inj, Int64.reduceToInt, Int32.toInt_toInt64, lg_cmp_ge, lg_cmp_le, lg_cmp_gt, lg_cmp_lt, lg_cmp_eq, Bool.false_eq_true, Bool.true_eq_false, reduceCtorEq, false_iff, true_iff, iff_true, iff_false, and_true, true_and, and_false, false_and, reduceIte, ite_true, ite_false, eq_self] at *)) <;> omega))) (rfl) rfl rfl (zr (by omega)) mk_X9_goalAtPoint ly_60 ml_9_110 (Nat.le_of_ble_eq_true rfl) (fun x64 s63 hs63 => ?_)
        obtain ⟨zs63, -⟩ := pL hs63
        subst zs63
        refine wa_aload_n (i := 0) rfl rfl ?_
        refine wa_getl ck_9 fl_9_63 ly_60 ?_
        refine wa_rwl (nx_gl_si hs62) ?_
        refine wa_aload_n (i := 0) rfl rfl ?_
        refine wa_getl ck_9 fl_9_41 ly_60 ?_
        refine wa_rwl (nx_gl_si hs62) ?_
        refine wa_lmul ?_
        refine wa_topl (fun v65 hv65 => ?_)
        clear hv65
        refine wa_ladd ?_
        refine wa_topl (fun v66 hv66 => ?_)
        clear hv66
        refine wa_Vv (d9 := d - 1) [.int _, .long _] [] (sp_X9_tellOne G (d := d - 1) (by omega) s62 _ _ (by ((try simp only [vp_in_iff, Int32.lt_iff_toInt_lt, Int32.le_iff_toInt_le, ← Int32.toInt_inj, Int32.reduceToInt, n_1, n_2, n_8, Int32.toNatClampNeg, Int64.lt_iff_toInt_lt, Int64.le_iff_toInt_le, ← Int64.toInt_inj, Int64.reduceToInt, Int32.toInt_toInt64, lg_cmp_ge, lg_cmp_le, lg_cmp_gt, lg_cmp_lt, lg_cmp_eq, Bool.false_eq_true, Bool.true_eq_false, reduceCtorEq, false_iff, true_iff, iff_true, iff_false, and_true, true_and, and_false, false_and, reduceIte, ite_true, ite_false, eq_self] at *)) <;> omega)) (rfl) rfl rfl (zr (by omega)) mk_X9_tellOne ly_60 ml_9_114 (Nat.le_of_ble_eq_true rfl) (fun s67 hs67 => ?_)
        obtain ⟨fs67, -⟩ := hs67
        have Fs67 := Sm.tr Fs62 (Sm.wd fs67 (lo' := 60) (hi' := 69) (by decide) (by decide))
        refine wa_iconst (v := 0) (by decide) ?_
        refine wa_istore_nD (lv' := [(2, .int 0), (1, .int x2), (0, .ref 60)]) (i := 2) rfl (by decide) rfl ?_
        refine wa_pick [2, 1, 0] rfl ?_
        have hi71 : ∀ (n9_57 : Nat) (l2 : Int32) (s69 : St), ((Sm 60 69 σ s69) ∧ (gi s69 60 12 = gi s1 60 12) ∧ (gl s69 60 8 = gl s1 60 8) ∧ (gl s69 60 10 = gl s1 60 10) ∧ (0 ≤ l2.toInt) ∧ (True)) → (2147483647 - l2.toInt).toNat = n9_57 → WA G M_X9_tell (ZM G M_X9_tell d (fun r σ' => ∃ x : Int32, r = some (.int x) ∧ Sm 60 69 σ σ' ∧ (0 ≤ (gi σ' 60 12).toInt ∧ (gi σ' 60 12).toInt ≤ 4) ∧ True)) B_X9_tell_57 [(0, .ref 60), (1, .int x2), (2, .int l2)] [] s69 := by
          intro n9_57
          induction n9_57 using Nat.strongRecOn with
          | _ n9_57 ih70 =>
            intro l2 s69 i9 m9_57
            obtain ⟨Fs69, khi71_0, khi71_1, khi71_2, jhi71_0, -⟩ := i9
            have ul2 := Int32.toInt_lt l2
            have wl2 := Int32.le_toInt l2
            refine wa_iload_n (i := 2) rfl rfl ?_
            refine wa_aload_n (i := 0) rfl rfl ?_
            refine wa_geti ck_9 fl_9_62 ly_60 ?_
            refine wa_rw (khi71_0) ?_
            refine wa_icmp_ge o_X9_tell_91 (by decide) (fun h72 => ?_) (fun h72 => ?_)
            · refine wa_iload_n (i := 1) rfl rfl ?_
              refine wa_ireturn rfl rfl ?_
              exact ⟨_, rfl, Fs69, (by rw [khi71_0]; first | assumption | (((try simp only [vp_in_iff, Int32.lt_iff_toInt_lt, Int32.le_iff_toInt_le, ← Int32.toInt_inj, Int32.reduceToInt, n_1, n_2, n_8, Int32.toNatClampNeg, Int64.lt_iff_toInt_lt, Int64.le_iff_toInt_le, ← Int64.toInt_inj, Int64.reduceToInt, Int32.toInt_toInt64, lg_cmp_ge, lg_cmp_le, lg_cmp_gt, lg_cmp_lt, lg_cmp_eq, Bool.false_eq_true, Bool.true_eq_false, reduceCtorEq, false_iff, true_iff, iff_true, iff_false, and_true, true_and, and_false, false_and, reduceIte, ite_true, ite_false, eq_self] at *)) <;> omega)), trivial⟩
            · have mh72 := nle_mx h72
              refine wa_iload_n (i := 1) rfl rfl ?_
              refine wa_iconst (v := 1) (by decide) ?_
              refine wa_icmp_ne o_X9_tell_91 (by decide) (fun h73 => ?_) (fun h73 => ?_)
              · refine wa_iload_n (i := 1) rfl rfl ?_
                refine wa_ireturn rfl rfl ?_
                exact ⟨_, rfl, Fs69, (by rw [khi71_0]; first | assumption | (((try simp only [vp_in_iff, Int32.lt_iff_toInt_lt, Int32.le_iff_toInt_le, ← Int32.toInt_inj, Int32.reduceToInt, n_1, n_2, n_8, Int32.toNatClampNeg, Int64.lt_iff_toInt_lt, Int64.le_iff_toInt_le, ← Int64.toInt_inj, Int64.reduceToInt, Int32.toInt_toInt64, lg_cmp_ge, lg_cmp_le, lg_cmp_gt, lg_cmp_lt, lg_cmp_eq, Bool.false_eq_true, Bool.true_eq_false, reduceCtorEq, false_iff, true_iff, iff_true, iff_false, and_true, true_and, and_false, false_and, reduceIte, ite_true, ite_false, eq_self] at *)) <;> omega)), trivial⟩
              · refine wa_aload_n (i := 0) rfl rfl ?_
                refine wa_iconst (v := 2) (by decide) ?_
                refine wa_iconst (v := 2) (by decide) ?_
                refine wa_iload_n (i := 2) rfl rfl ?_
                refine wa_imul ?_
                refine wa_top (fun v74 hv74 => ?_)
                have tv74 := i_mulT hv74
                clear hv74
                refine wa_iadd ?_
                refine wa_top (fun v75 hv75 => ?_)
                have tv75 := i_addT hv75
                clear hv75
                refine wa_aload_n (i := 0) rfl rfl ?_
                refine wa_getr ck_9 fl_9_28 ly_60 rf_60_5 ?_
                refine wa_iload_n (i := 2) rfl rfl ?_
                refine wa_lald ly_66 (by ((try simp only [vp_in_iff, Int32.lt_iff_toInt_lt, Int32.le_iff_toInt_le, ← Int32.toInt_inj, Int32.reduceToInt, n_1, n_2, n_8, Int32.toNatClampNeg, Int64.lt_iff_toInt_lt, Int64.le_iff_toInt_le, ← Int64.toInt_inj, Int64.reduceToInt, Int32.toInt_toInt64, lg_cmp_ge, lg_cmp_le, lg_cmp_gt, lg_cmp_lt, lg_cmp_eq, Bool.false_eq_true, Bool.true_eq_false, reduceCtorEq, false_iff, true_iff, iff_true, iff_false, and_true, true_and, and_false, false_and, reduceIte, ite_true, ite_false, eq_self] at *)) <;> omega) ?_
                refine wa_Vv (d9 := d - 1) [.int _, .long _] [] (sp_X9_tellOne G (d := d - 1) (by omega) s69 _ _ (by ((try simp only [vp_in_iff, Int32.lt_iff_toInt_lt, Int32.le_iff_toInt_le, ← Int32.toInt_inj, Int32.reduceToInt, n_1, n_2, n_8, Int32.toNatClampNeg, Int64.lt_iff_toInt_lt, Int64.le_iff_toInt_le, ← Int64.toInt_inj, Int64.reduceToInt, Int32.toInt_toInt64, lg_cmp_ge, lg_cmp_le, lg_cmp_gt, lg_cmp_lt, lg_cmp_eq, Bool.false_eq_true, Bool.true_eq_false, reduceCtorEq, false_iff, true_iff, iff_true, iff_false, and_true, true_and, and_false, false_and, reduceIte, ite_true, ite_false, eq_self] at *)) <;> omega)) (rfl) rfl rfl (zr (by omega)) mk_X9_tellOne ly_60 ml_9_114 (Nat.le_of_ble_eq_true rfl) (fun s76 hs76 => ?_)
                obtain ⟨fs76, -⟩ := hs76
                have Fs76 := Sm.tr Fs69 (Sm.wd fs76 (lo' := 60) (hi' := 69) (by decide) (by decide))
                refine wa_iinc (v := (1)) (lv' := fun y78 => [(2, .int y78), (0, .ref 60), (1, .int x2)]) (by decide) rfl (by decide) (fun _ => rfl) (fun y78 hy78 => ?_)
                have ty78 := i_addT hy78.symm
                clear hy78
                refine wa_goto o_X9_tell_57 (by decide) ?_
                refine wa_pick [1, 2, 0] rfl ?_
                exact ih70 _ (by ((try simp only [vp_in_iff, Int32.lt_iff_toInt_lt, Int32.le_iff_toInt_le, ← Int32.toInt_inj, Int32.reduceToInt, n_1, n_2, n_8, Int32.toNatClampNeg, Int64.lt_iff_toInt_lt, Int64.le_iff_toInt_le, ← Int64.toInt_inj, Int64.reduceToInt, Int32.toInt_toInt64, lg_cmp_ge, lg_cmp_le, lg_cmp_gt, lg_cmp_lt, lg_cmp_eq, Bool.false_eq_true, Bool.true_eq_false, reduceCtorEq, false_iff, true_iff, iff_true, iff_false, and_true, true_and, and_false, false_and, reduceIte, ite_true, ite_false, eq_self] at *)) <;> omega) _ _ ⟨Fs76, ((Sm.gi fs76 12 (Or.inl (by decide))).trans (khi71_0)), ((Sm.gl fs76 8 (Or.inl (by decide))).trans (khi71_1)), ((Sm.gl fs76 10 (Or.inl (by decide))).trans (khi71_2)), (by ((try simp only [vp_in_iff, Int32.lt_iff_toInt_lt, Int32.le_iff_toInt_le, ← Int32.toInt_inj, Int32.reduceToInt, n_1, n_2, n_8, Int32.toNatClampNeg, Int64.lt_iff_toInt_lt, Int64.le_iff_toInt_le, ← Int64.toInt_inj, Int64.reduceToInt, Int32.toInt_toInt64, lg_cmp_ge, lg_cmp_le, lg_cmp_gt, lg_cmp_lt, lg_cmp_eq, Bool.false_eq_true, Bool.true_eq_false, reduceCtorEq, false_iff, true_iff, iff_true, iff_false, and_true, true_and, and_false, false_and, reduceIte, ite_true, ite_false, eq_self] at *)) <;> omega), trivial⟩ rfl
        exact hi71 _ _ _ ⟨Fs67, ((Sm.gi fs67 12 (Or.inl (by decide))).trans (nxk_gi_si hs62 (by decide))), ((Sm.gl fs67 8 (Or.inl (by decide))).trans (nx_gl_si hs62)), ((Sm.gl fs67 10 (Or.inl (by decide))).trans (nx_gl_si hs62)), (by ((try simp only [vp_in_iff, Int32.lt_iff_toInt_lt, Int32.le_iff_toInt_le, ← Int32.toInt_inj, Int32.reduceToInt, n_1, n_2, n_8, Int32.toNatClampNeg, Int64.lt_iff_toInt_lt, Int64.le_iff_toInt_le, ← Int64.toInt_inj, Int64.reduceToInt, Int32.toInt_toInt64, lg_cmp_ge, lg_cmp_le, lg_cmp_gt, lg_cmp_lt, lg_cmp_eq, Bool.false_eq_true, Bool.true_eq_false, reduceCtorEq, false_iff, true_iff, iff_true, iff_false, and_true, true_and, and_false, false_and, reduceIte, ite_true, ite_false, eq_self] at *)) <;> omega), trivial⟩ rfl
set_option maxHeartbeats 4000000 in
theorem sp_X9_isTold (G : kG9) {d : Nat} (hd : 0 ≤ d) (σ : St) (a0 : Int32) : Ct G M_X9_isTold d [.ref 60, .int a0] σ (fun r σ' => ∃ x : Bool, r = some (.int (bI x)) ∧ σ = σ' ∧ True) := by
  refine wa_start (by decide) rfl (Nat.le_of_ble_eq_true rfl) (lv := [(0, .ref 60), (1, .int a0)]) rfl o_X9_isTold_0 rfl ?_
  have ua0 := Int32.toInt_lt a0
  have wa0 := Int32.le_toInt a0
  refine wa_iload_n (i := 1) rfl rfl ?_
  refine wa_if_lt o_X9_isTold_16 (by decide) (fun h1 => ?_) (fun h1 => ?_)
  · refine wa_iconst (v := 0) (by decide) ?_
    refine wa_zreturn false (rfl) rfl rfl ?_
    exact ⟨_, rfl, rfl, trivial⟩
  · refine wa_iload_n (i := 1) rfl rfl ?_
    refine wa_aload_n (i := 0) rfl rfl ?_
    refine wa_geti ck_9 fl_9_107 ly_60 ?_
    refine wa_icmp_ge o_X9_isTold_16 (by decide) (fun h2 => ?_) (fun h2 => ?_)
    · refine wa_iconst (v := 0) (by decide) ?_
      refine wa_zreturn false (rfl) rfl rfl ?_
      exact ⟨_, rfl, rfl, trivial⟩
    · have mh2 := nle_mx h2
      refine wa_iconst (v := 1) (by decide) ?_
      refine wa_goto o_X9_isTold_17 (by decide) ?_
      refine wa_zreturn true (rfl) rfl rfl ?_
      exact ⟨_, rfl, rfl, trivial⟩
set_option maxHeartbeats 4000000 in
theorem sp_X9_toldFraction (G : kG9) {d : Nat} (hd : 0 ≤ d) (σ : St) (a0 : Int32) : Ct G M_X9_toldFraction d [.ref 60, .int a0] σ (fun r σ' => ∃ x : Int64, r = some (.long x) ∧ σ = σ' ∧ True) := by
  refine wa_start (by decide) rfl (Nat.le_of_ble_eq_true rfl) (lv := [(0, .ref 60), (1, .int a0)]) rfl o_X9_toldFraction_0 rfl ?_
  have ua0 := Int32.toInt_lt a0
  have wa0 := Int32.le_toInt a0
  refine wa_iload_n (i := 1) rfl rfl ?_
  refine wa_if_lt o_X9_toldFraction_22 (by decide) (fun h1 => ?_) (fun h1 => ?_)
  · refine wa_lconst (v := 0) (by decide) ?_
    refine wa_lreturn rfl rfl ?_
    exact ⟨_, rfl, rfl, trivial⟩
  · refine wa_iload_n (i := 1) rfl rfl ?_
    refine wa_aload_n (i := 0) rfl rfl ?_
    refine wa_getr ck_9 fl_9_34 ly_60 rf_60_7 ?_
    refine wa_alen ly_68 (by decide) ?_
    refine wa_rw (show Int32.ofNat 10 = 10 from rfl) ?_
    refine wa_icmp_ge o_X9_toldFraction_22 (by decide) (fun h2 => ?_) (fun h2 => ?_)
    · refine wa_lconst (v := 0) (by decide) ?_
      refine wa_lreturn rfl rfl ?_
      exact ⟨_, rfl, rfl, trivial⟩
    · have mh2 := nle_mx h2
      refine wa_aload_n (i := 0) rfl rfl ?_
      refine wa_getr ck_9 fl_9_34 ly_60 rf_60_7 ?_
      refine wa_iload_n (i := 1) rfl rfl ?_
      refine wa_lald ly_68 (by ((try simp only [vp_in_iff, Int32.lt_iff_toInt_lt, Int32.le_iff_toInt_le, ← Int32.toInt_inj, Int32.reduceToInt, n_1, n_2, n_8, Int32.toNatClampNeg, Int64.lt_iff_toInt_lt, Int64.le_iff_toInt_le, ← Int64.toInt_inj, Int64.reduceToInt, Int32.toInt_toInt64, lg_cmp_ge, lg_cmp_le, lg_cmp_gt, lg_cmp_lt, lg_cmp_eq, Bool.false_eq_true, Bool.true_eq_false, reduceCtorEq, false_iff, true_iff, iff_true, iff_false, and_true, true_and, and_false, false_and, reduceIte, ite_true, ite_false, eq_self] at *)) <;> omega) ?_
      refine wa_goto o_X9_toldFraction_23 (by decide) ?_
      refine wa_lreturn rfl rfl ?_
      exact ⟨_, rfl, rfl, trivial⟩
set_option maxHeartbeats 4000000 in
theorem sp_X9_goalDown (G : kG9) {d : Nat} (hd : 1 ≤ d) (σ : St) (r1 : 0 ≤ (gi σ 60 12).toInt ∧ (gi σ 60 12).toInt ≤ 4) : Ct G M_X9_goalDown d [.ref 60] σ (fun r σ' => ∃ x : Int64, r = some (.long x) ∧ σ = σ' ∧ True) := by
  refine wa_start (by decide) rfl (Nat.le_of_ble_eq_true rfl) (lv := [(0, .ref 60)]) rfl o_X9_goalDown_0 rfl ?_
  refine wa_aload_n (i := 0) rfl rfl ?_
  refine wa_Vl (d9 := d - 1) [] [] (sp_X9_goalAtPoint G (d := d - 1) (by omega) σ  (by first | assumption | exact Or.inl rfl | exact Or.inr rfl | (((try simp only [vp_in_iff, Int32.lt_iff_toInt_lt, Int32.le_iff_toInt_le, ← Int32.toInt_inj, Int32.reduceToInt, n_1, n_2, n_8, Int32.toNatClampNeg, Int64.lt_iff_toInt_lt, Int64.le_iff_toInt_le, ← Int64.toInt_inj, Int64.reduceToInt, Int32.toInt_toInt64, lg_cmp_ge, lg_cmp_le, lg_cmp_gt, lg_cmp_lt, lg_cmp_eq, Bool.false_eq_true, Bool.true_eq_false, reduceCtorEq, false_iff, true_iff, iff_true, iff_false, and_true, true_and, and_false, false_and, reduceIte, ite_true, ite_false, eq_self] at *)) <;> omega))) (rfl) rfl rfl (zr (by omega)) mk_X9_goalAtPoint ly_60 ml_9_110 (Nat.le_of_ble_eq_true rfl) (fun x2 s1 hs1 => ?_)
  obtain ⟨zs1, -⟩ := pL hs1
  subst zs1
  refine wa_lconst (v := 1) (by decide) ?_
  refine wa_aload_n (i := 0) rfl rfl ?_
  refine wa_getl ck_9 fl_9_41 ly_60 ?_
  refine wa_maxL zs (allW_in (kT_7 _ (List.mem_of_getElem? (i := 236) rfl)) rfl) (Nat.le_of_ble_eq_true rfl) ?_
  refine wa_topl (fun v3 hv3 => ?_)
  have tv3 := i_maxL hv3
  clear hv3
  refine wa_Sl (d9 := d - 1) [.long _, .long _] [] (sp_J9_floorDiv_f86c9 G (d := d - 1) (by omega) σ _ _ (by ((try simp only [vp_in_iff, Int32.lt_iff_toInt_lt, Int32.le_iff_toInt_le, ← Int32.toInt_inj, Int32.reduceToInt, n_1, n_2, n_8, Int32.toNatClampNeg, Int64.lt_iff_toInt_lt, Int64.le_iff_toInt_le, ← Int64.toInt_inj, Int64.reduceToInt, Int32.toInt_toInt64, lg_cmp_ge, lg_cmp_le, lg_cmp_gt, lg_cmp_lt, lg_cmp_eq, Bool.false_eq_true, Bool.true_eq_false, reduceCtorEq, false_iff, true_iff, iff_true, iff_false, and_true, true_and, and_false, false_and, reduceIte, ite_true, ite_false, eq_self] at *)) <;> omega)) (rfl) rfl rfl (zr (by omega)) mk_J9_floorDiv_f86c9 ml_9_176 (Nat.le_of_ble_eq_true rfl) (fun x5 s4 hs4 => ?_)
  obtain ⟨zs4, -⟩ := pL hs4
  subst zs4
  refine wa_aload_n (i := 0) rfl rfl ?_
  refine wa_getl ck_9 fl_9_63 ly_60 ?_
  refine wa_ladd ?_
  refine wa_topl (fun v6 hv6 => ?_)
  clear hv6
  refine wa_lreturn rfl rfl ?_
  exact ⟨_, rfl, rfl, trivial⟩
set_option maxHeartbeats 4000000 in
theorem sp_X9_firstBroken (G : kG9) {d : Nat} (hd : 1 ≤ d) (σ : St) (r1 : 0 ≤ (gi σ 60 12).toInt ∧ (gi σ 60 12).toInt ≤ 4) : Ct G M_X9_firstBroken d [.ref 60] σ (fun r σ' => ∃ x : Int32, r = some (.int x) ∧ σ = σ' ∧ True) := by
  refine wa_start (by decide) rfl (Nat.le_of_ble_eq_true rfl) (lv := [(0, .ref 60)]) rfl o_X9_firstBroken_0 rfl ?_
  refine wa_iconst (v := 0) (by decide) ?_
  refine wa_istore_nD (lv' := [(1, .int 0), (0, .ref 60)]) (i := 1) rfl (by decide) rfl ?_
  refine wa_pick [1, 0] rfl ?_
  have hi2 : ∀ (n9_2 : Nat) (l1 : Int32), ((0 ≤ l1.toInt) ∧ (True)) → (2147483647 - l1.toInt).toNat = n9_2 → WA G M_X9_firstBroken (ZM G M_X9_firstBroken d (fun r σ' => ∃ x : Int32, r = some (.int x) ∧ σ = σ' ∧ True)) B_X9_firstBroken_2 [(0, .ref 60), (1, .int l1)] [] σ := by
    intro n9_2
    induction n9_2 using Nat.strongRecOn with
    | _ n9_2 ih1 =>
      intro l1  i9 m9_2
      obtain ⟨jhi2_0, -⟩ := i9
      have ul1 := Int32.toInt_lt l1
      have wl1 := Int32.le_toInt l1
      refine wa_iload_n (i := 1) rfl rfl ?_
      refine wa_aload_n (i := 0) rfl rfl ?_
      refine wa_geti ck_9 fl_9_62 ly_60 ?_
      refine wa_icmp_ge o_X9_firstBroken_40 (by decide) (fun h3 => ?_) (fun h3 => ?_)
      · refine wa_iconst (v := (-1)) (by decide) ?_
        refine wa_ireturn rfl rfl ?_
        exact ⟨_, rfl, rfl, trivial⟩
      · have mh3 := nle_mx h3
        refine wa_aload_n (i := 0) rfl rfl ?_
        refine wa_getr ck_9 fl_9_28 ly_60 rf_60_5 ?_
        refine wa_iload_n (i := 1) rfl rfl ?_
        refine wa_lald ly_66 (by ((try simp only [vp_in_iff, Int32.lt_iff_toInt_lt, Int32.le_iff_toInt_le, ← Int32.toInt_inj, Int32.reduceToInt, n_1, n_2, n_8, Int32.toNatClampNeg, Int64.lt_iff_toInt_lt, Int64.le_iff_toInt_le, ← Int64.toInt_inj, Int64.reduceToInt, Int32.toInt_toInt64, lg_cmp_ge, lg_cmp_le, lg_cmp_gt, lg_cmp_lt, lg_cmp_eq, Bool.false_eq_true, Bool.true_eq_false, reduceCtorEq, false_iff, true_iff, iff_true, iff_false, and_true, true_and, and_false, false_and, reduceIte, ite_true, ite_false, eq_self] at *)) <;> omega) ?_
        refine wa_lconst (v := 1) (by decide) ?_
        refine wa_aload_n (i := 0) rfl rfl ?_
        refine wa_getl ck_9 fl_9_41 ly_60 ?_
        refine wa_maxL zs (allW_in (kT_7 _ (List.mem_of_getElem? (i := 236) rfl)) rfl) (Nat.le_of_ble_eq_true rfl) ?_
        refine wa_topl (fun v4 hv4 => ?_)
        have tv4 := i_maxL hv4
        clear hv4
        refine wa_Sl (d9 := d - 1) [.long _, .long _] [] (sp_J9_floorMod_f86c9 G (d := d - 1) (by omega) σ _ _ (by ((try simp only [vp_in_iff, Int32.lt_iff_toInt_lt, Int32.le_iff_toInt_le, ← Int32.toInt_inj, Int32.reduceToInt, n_1, n_2, n_8, Int32.toNatClampNeg, Int64.lt_iff_toInt_lt, Int64.le_iff_toInt_le, ← Int64.toInt_inj, Int64.reduceToInt, Int32.toInt_toInt64, lg_cmp_ge, lg_cmp_le, lg_cmp_gt, lg_cmp_lt, lg_cmp_eq, Bool.false_eq_true, Bool.true_eq_false, reduceCtorEq, false_iff, true_iff, iff_true, iff_false, and_true, true_and, and_false, false_and, reduceIte, ite_true, ite_false, eq_self] at *)) <;> omega)) (rfl) rfl rfl (zr (by omega)) mk_J9_floorMod_f86c9 ml_9_179 (Nat.le_of_ble_eq_true rfl) (fun x6 s5 hs5 => ?_)
        obtain ⟨zs5, -⟩ := pL hs5
        subst zs5
        refine wa_lconst (v := 0) (by decide) ?_
        refine wa_lcmp ?_
        refine wa_top (fun v7 hv7 => ?_)
        have tv7 := i_cmpT hv7
        clear hv7
        refine wa_if_eq o_X9_firstBroken_34 (by decide) (fun h8 => ?_) (fun h8 => ?_)
        · refine wa_iinc (v := (1)) (lv' := fun y9 => [(1, .int y9), (0, .ref 60)]) (by decide) rfl (by decide) (fun _ => rfl) (fun y9 hy9 => ?_)
          have ty9 := i_addT hy9.symm
          clear hy9
          refine wa_goto o_X9_firstBroken_2 (by decide) ?_
          refine wa_pick [1, 0] rfl ?_
          exact ih1 _ (by ((try simp only [vp_in_iff, Int32.lt_iff_toInt_lt, Int32.le_iff_toInt_le, ← Int32.toInt_inj, Int32.reduceToInt, n_1, n_2, n_8, Int32.toNatClampNeg, Int64.lt_iff_toInt_lt, Int64.le_iff_toInt_le, ← Int64.toInt_inj, Int64.reduceToInt, Int32.toInt_toInt64, lg_cmp_ge, lg_cmp_le, lg_cmp_gt, lg_cmp_lt, lg_cmp_eq, Bool.false_eq_true, Bool.true_eq_false, reduceCtorEq, false_iff, true_iff, iff_true, iff_false, and_true, true_and, and_false, false_and, reduceIte, ite_true, ite_false, eq_self] at *)) <;> omega) _ ⟨(by ((try simp only [vp_in_iff, Int32.lt_iff_toInt_lt, Int32.le_iff_toInt_le, ← Int32.toInt_inj, Int32.reduceToInt, n_1, n_2, n_8, Int32.toNatClampNeg, Int64.lt_iff_toInt_lt, Int64.le_iff_toInt_le, ← Int64.toInt_inj, Int64.reduceToInt, Int32.toInt_toInt64, lg_cmp_ge, lg_cmp_le, lg_cmp_gt, lg_cmp_lt, lg_cmp_eq, Bool.false_eq_true, Bool.true_eq_false, reduceCtorEq, false_iff, true_iff, iff_true, iff_false, and_true, true_and, and_false, false_and, reduceIte, ite_true, ite_false, eq_self] at *)) <;> omega), trivial⟩ rfl
        · refine wa_iload_n (i := 1) rfl rfl ?_
          refine wa_ireturn rfl rfl ?_
          exact ⟨_, rfl, rfl, trivial⟩
  exact hi2 _ _ ⟨(by ((try simp only [vp_in_iff, Int32.lt_iff_toInt_lt, Int32.le_iff_toInt_le, ← Int32.toInt_inj, Int32.reduceToInt, n_1, n_2, n_8, Int32.toNatClampNeg, Int64.lt_iff_toInt_lt, Int64.le_iff_toInt_le, ← Int64.toInt_inj, Int64.reduceToInt, Int32.toInt_toInt64, lg_cmp_ge, lg_cmp_le, lg_cmp_gt, lg_cmp_lt, lg_cmp_eq, Bool.false_eq_true, Bool.true_eq_false, reduceCtorEq, false_iff, true_iff, iff_true, iff_false, and_true, true_and, and_false, false_and, reduceIte, ite_true, ite_false, eq_self] at *)) <;> omega), trivial⟩ rfl
set_option maxHeartbeats 4000000 in
theorem sp_X9_down (G : kG9) {d : Nat} (hd : 1 ≤ d) (σ : St) (a0 : Int32) : Ct G M_X9_down d [.ref 60, .int a0] σ (fun r σ' => ∃ x : Int64, r = some (.long x) ∧ σ = σ' ∧ True) := by
  refine wa_start (by decide) rfl (Nat.le_of_ble_eq_true rfl) (lv := [(0, .ref 60), (1, .int a0)]) rfl o_X9_down_0 rfl ?_
  have ua0 := Int32.toInt_lt a0
  have wa0 := Int32.le_toInt a0
  refine wa_iload_n (i := 1) rfl rfl ?_
  refine wa_if_lt o_X9_down_18 (by decide) (fun h1 => ?_) (fun h1 => ?_)
  · refine wa_lconst (v := 0) (by decide) ?_
    refine wa_lstore_nD (lv' := [(2, .long 0), (0, .ref 60), (1, .int a0)]) (i := 2) rfl (by decide) rfl ?_
    refine wa_lload_n (i := 2) rfl rfl ?_
    refine wa_lconst (v := 1) (by decide) ?_
    refine wa_aload_n (i := 0) rfl rfl ?_
    refine wa_getl ck_9 fl_9_41 ly_60 ?_
    refine wa_maxL zs (allW_in (kT_7 _ (List.mem_of_getElem? (i := 236) rfl)) rfl) (Nat.le_of_ble_eq_true rfl) ?_
    refine wa_topl (fun v2 hv2 => ?_)
    have tv2 := i_maxL hv2
    clear hv2
    refine wa_Sl (d9 := d - 1) [.long _, .long _] [] (sp_J9_floorDiv_f86c9 G (d := d - 1) (by omega) σ _ _ (by ((try simp only [vp_in_iff, Int32.lt_iff_toInt_lt, Int32.le_iff_toInt_le, ← Int32.toInt_inj, Int32.reduceToInt, n_1, n_2, n_8, Int32.toNatClampNeg, Int64.lt_iff_toInt_lt, Int64.le_iff_toInt_le, ← Int64.toInt_inj, Int64.reduceToInt, Int32.toInt_toInt64, lg_cmp_ge, lg_cmp_le, lg_cmp_gt, lg_cmp_lt, lg_cmp_eq, Bool.false_eq_true, Bool.true_eq_false, reduceCtorEq, false_iff, true_iff, iff_true, iff_false, and_true, true_and, and_false, false_and, reduceIte, ite_true, ite_false, eq_self] at *)) <;> omega)) (rfl) rfl rfl (zr (by omega)) mk_J9_floorDiv_f86c9 ml_9_176 (Nat.le_of_ble_eq_true rfl) (fun x4 s3 hs3 => ?_)
    obtain ⟨zs3, -⟩ := pL hs3
    subst zs3
    refine wa_lreturn rfl rfl ?_
    exact ⟨_, rfl, rfl, trivial⟩
  · refine wa_iload_n (i := 1) rfl rfl ?_
    refine wa_iconst (v := 4) (by decide) ?_
    refine wa_icmp_ge o_X9_down_18 (by decide) (fun h5 => ?_) (fun h5 => ?_)
    · refine wa_lconst (v := 0) (by decide) ?_
      refine wa_lstore_nD (lv' := [(2, .long 0), (0, .ref 60), (1, .int a0)]) (i := 2) rfl (by decide) rfl ?_
      refine wa_lload_n (i := 2) rfl rfl ?_
      refine wa_lconst (v := 1) (by decide) ?_
      refine wa_aload_n (i := 0) rfl rfl ?_
      refine wa_getl ck_9 fl_9_41 ly_60 ?_
      refine wa_maxL zs (allW_in (kT_7 _ (List.mem_of_getElem? (i := 236) rfl)) rfl) (Nat.le_of_ble_eq_true rfl) ?_
      refine wa_topl (fun v6 hv6 => ?_)
      have tv6 := i_maxL hv6
      clear hv6
      refine wa_Sl (d9 := d - 1) [.long _, .long _] [] (sp_J9_floorDiv_f86c9 G (d := d - 1) (by omega) σ _ _ (by ((try simp only [vp_in_iff, Int32.lt_iff_toInt_lt, Int32.le_iff_toInt_le, ← Int32.toInt_inj, Int32.reduceToInt, n_1, n_2, n_8, Int32.toNatClampNeg, Int64.lt_iff_toInt_lt, Int64.le_iff_toInt_le, ← Int64.toInt_inj, Int64.reduceToInt, Int32.toInt_toInt64, lg_cmp_ge, lg_cmp_le, lg_cmp_gt, lg_cmp_lt, lg_cmp_eq, Bool.false_eq_true, Bool.true_eq_false, reduceCtorEq, false_iff, true_iff, iff_true, iff_false, and_true, true_and, and_false, false_and, reduceIte, ite_true, ite_false, eq_self] at *)) <;> omega)) (rfl) rfl rfl (zr (by omega)) mk_J9_floorDiv_f86c9 ml_9_176 (Nat.le_of_ble_eq_true rfl) (fun x8 s7 hs7 => ?_)
      obtain ⟨zs7, -⟩ := pL hs7
      subst zs7
      refine wa_lreturn rfl rfl ?_
      exact ⟨_, rfl, rfl, trivial⟩
    · have mh5 := nle_mx h5
      refine wa_aload_n (i := 0) rfl rfl ?_
      refine wa_getr ck_9 fl_9_28 ly_60 rf_60_5 ?_
      refine wa_iload_n (i := 1) rfl rfl ?_
      refine wa_lald ly_66 (by ((try simp only [vp_in_iff, Int32.lt_iff_toInt_lt, Int32.le_iff_toInt_le, ← Int32.toInt_inj, Int32.reduceToInt, n_1, n_2, n_8, Int32.toNatClampNeg, Int64.lt_iff_toInt_lt, Int64.le_iff_toInt_le, ← Int64.toInt_inj, Int64.reduceToInt, Int32.toInt_toInt64, lg_cmp_ge, lg_cmp_le, lg_cmp_gt, lg_cmp_lt, lg_cmp_eq, Bool.false_eq_true, Bool.true_eq_false, reduceCtorEq, false_iff, true_iff, iff_true, iff_false, and_true, true_and, and_false, false_and, reduceIte, ite_true, ite_false, eq_self] at *)) <;> omega) ?_
      refine wa_goto o_X9_down_19 (by decide) ?_
      refine wa_lstore_nD (lv' := [(2, .long (gl σ 66 (a0).toNatClampNeg)), (0, .ref 60), (1, .int a0)]) (i := 2) rfl (by decide) rfl ?_
      refine wa_lload_n (i := 2) rfl rfl ?_
      refine wa_lconst (v := 1) (by decide) ?_
      refine wa_aload_n (i := 0) rfl rfl ?_
      refine wa_getl ck_9 fl_9_41 ly_60 ?_
      refine wa_maxL zs (allW_in (kT_7 _ (List.mem_of_getElem? (i := 236) rfl)) rfl) (Nat.le_of_ble_eq_true rfl) ?_
      refine wa_topl (fun v9 hv9 => ?_)
      have tv9 := i_maxL hv9
      clear hv9
      refine wa_Sl (d9 := d - 1) [.long _, .long _] [] (sp_J9_floorDiv_f86c9 G (d := d - 1) (by omega) σ _ _ (by ((try simp only [vp_in_iff, Int32.lt_iff_toInt_lt, Int32.le_iff_toInt_le, ← Int32.toInt_inj, Int32.reduceToInt, n_1, n_2, n_8, Int32.toNatClampNeg, Int64.lt_iff_toInt_lt, Int64.le_iff_toInt_le, ← Int64.toInt_inj, Int64.reduceToInt, Int32.toInt_toInt64, lg_cmp_ge, lg_cmp_le, lg_cmp_gt, lg_cmp_lt, lg_cmp_eq, Bool.false_eq_true, Bool.true_eq_false, reduceCtorEq, false_iff, true_iff, iff_true, iff_false, and_true, true_and, and_false, false_and, reduceIte, ite_true, ite_false, eq_self] at *)) <;> omega)) (rfl) rfl rfl (zr (by omega)) mk_J9_floorDiv_f86c9 ml_9_176 (Nat.le_of_ble_eq_true rfl) (fun x11 s10 hs10 => ?_)
      obtain ⟨zs10, -⟩ := pL hs10
      subst zs10
      refine wa_lreturn rfl rfl ?_
      exact ⟨_, rfl, rfl, trivial⟩
set_option maxHeartbeats 4000000 in
theorem sp_X9_isLimit (G : kG9) {d : Nat} (hd : 0 ≤ d) (σ : St) (a0 : Int64) : Ct G M_X9_isLimit d [.long a0] σ (fun r σ' => ∃ x : Bool, r = some (.int (bI x)) ∧ σ = σ' ∧ True) := by
  refine wa_start (by decide) rfl (Nat.le_of_ble_eq_true rfl) (lv := [(0, .long a0)]) rfl o_X9_isLimit_0 rfl ?_
  refine wa_lload_n (i := 0) rfl rfl ?_
  refine wa_absL zs (allW_in (kT_8 _ (List.mem_of_getElem? (i := 50) rfl)) rfl) (Nat.le_of_ble_eq_true rfl) ?_
  refine wa_topl (fun v1 hv1 => ?_)
  have tv1 := i_absL hv1
  clear hv1
  refine wa_ldc2 (v := (100000000)) (allW_in (kT_8 _ (List.mem_of_getElem? (i := 51) rfl)) rfl) ?_
  refine wa_lcmp ?_
  refine wa_top (fun v2 hv2 => ?_)
  have tv2 := i_cmpT hv2
  clear hv2
  refine wa_if_gt o_X9_isLimit_15 (by decide) (fun h3 => ?_) (fun h3 => ?_)
  · refine wa_iconst (v := 0) (by decide) ?_
    refine wa_zreturn false (rfl) rfl rfl ?_
    exact ⟨_, rfl, rfl, trivial⟩
  · refine wa_iconst (v := 1) (by decide) ?_
    refine wa_goto o_X9_isLimit_16 (by decide) ?_
    refine wa_zreturn true (rfl) rfl rfl ?_
    exact ⟨_, rfl, rfl, trivial⟩
set_option maxHeartbeats 4000000 in
theorem sp_X9_findBasis (G : kG9) {d : Nat} (hd : 2 ≤ d) (σ : St) (r1 : 0 ≤ (gi σ 60 12).toInt ∧ (gi σ 60 12).toInt ≤ 4) : Ct G M_X9_findBasis d [.ref 60] σ (fun r σ' => Sm 60 66 σ σ' ∧ (0 ≤ (gi σ' 60 12).toInt ∧ (gi σ' 60 12).toInt ≤ 4) ∧ True) := by
  refine wa_start (by decide) rfl (Nat.le_of_ble_eq_true rfl) (lv := [(0, .ref 60)]) rfl o_X9_findBasis_0 rfl ?_
  refine wa_aload_n (i := 0) rfl rfl ?_
  refine wa_getr ck_9 fl_9_22 ly_60 rf_60_3 ?_
  refine wa_lconst (v := 0) (by decide) ?_
  refine wa_Sv (d9 := d - 1) [.ref 64, .long _] [] (sp_J7_fill_d0a16_at_64 G (d := d - 1) (by omega) σ _) (rfl) rfl rfl (zr (by omega)) mk_J7_fill_d0a16 ml_9_147 (Nat.le_of_ble_eq_true rfl) (fun s1 hs1 => ?_)
  obtain ⟨fs1, -⟩ := hs1
  have Fs1 := Sm.tr (Sm.rf 60 66 σ) (Sm.wd fs1 (lo' := 60) (hi' := 66) (by decide) (by decide))
  refine wa_aload_n (i := 0) rfl rfl ?_
  refine wa_lconst (v := 1) (by decide) ?_
  refine wa_putl ck_9 fl_9_37 ly_60 (fun s3 hs3 => ?_)
  have Fs3 : Sm 60 66 σ s3 := by rw [hs3]; exact Sm.sl Fs1 _ _ (by decide) (by decide)
  refine wa_iconst (v := 0) (by decide) ?_
  refine wa_istore_nD (lv' := [(1, .int 0), (0, .ref 60)]) (i := 1) rfl (by decide) rfl ?_
  refine wa_pick [1, 0] rfl ?_
  have hi6 : ∀ (n9_15 : Nat) (l1 : Int32) (s4 : St), ((Sm 60 66 σ s4) ∧ (gi s4 60 12 = gi σ 60 12) ∧ (gi s4 60 11 = gi σ 60 11) ∧ (0 ≤ l1.toInt) ∧ (True)) → (2147483647 - l1.toInt).toNat = n9_15 → WA G M_X9_findBasis (ZM G M_X9_findBasis d (fun r σ' => Sm 60 66 σ σ' ∧ (0 ≤ (gi σ' 60 12).toInt ∧ (gi σ' 60 12).toInt ≤ 4) ∧ True)) B_X9_findBasis_15 [(0, .ref 60), (1, .int l1)] [] s4 := by
    intro n9_15
    induction n9_15 using Nat.strongRecOn with
    | _ n9_15 ih5 =>
      intro l1 s4 i9 m9_15
      obtain ⟨Fs4, khi6_0, khi6_1, jhi6_0, -⟩ := i9
      have ul1 := Int32.toInt_lt l1
      have wl1 := Int32.le_toInt l1
      refine wa_iload_n (i := 1) rfl rfl ?_
      refine wa_iconst (v := 4) (by decide) ?_
      refine wa_icmp_ge o_X9_findBasis_44 (by decide) (fun h7 => ?_) (fun h7 => ?_)
      · refine wa_iconst (v := 0) (by decide) ?_
        refine wa_istore_nD (lv' := [(1, .int 0), (0, .ref 60)]) (i := 1) rfl (by decide) rfl ?_
        refine wa_pick [1, 0] rfl ?_
        have hi10 : ∀ (n9_46 : Nat) (l1 : Int32) (s8 : St), ((Sm 60 66 σ s8) ∧ (0 ≤ l1.toInt) ∧ (0 ≤ (gi s8 60 12).toInt ∧ (gi s8 60 12).toInt ≤ 4) ∧ (True)) → (2147483647 - l1.toInt).toNat = n9_46 → WA G M_X9_findBasis (ZM G M_X9_findBasis d (fun r σ' => Sm 60 66 σ σ' ∧ (0 ≤ (gi σ' 60 12).toInt ∧ (gi σ' 60 12).toInt ≤ 4) ∧ True)) B_X9_findBasis_46 [(0, .ref 60), (1, .int l1)] [] s8 := by
          intro n9_46
          induction n9_46 using Nat.strongRecOn with
          | _ n9_46 ih9 =>
            intro l1 s8 i9 m9_46
            obtain ⟨Fs8, jhi10_0, jhi10_1, -⟩ := i9
            have ul1 := Int32.toInt_lt l1
            have wl1 := Int32.le_toInt l1
            refine wa_iload_n (i := 1) rfl rfl ?_
            refine wa_aload_n (i := 0) rfl rfl ?_
            refine wa_geti ck_9 fl_9_44 ly_60 ?_
            refine wa_icmp_ge o_X9_findBasis_130 (by decide) (fun h11 => ?_) (fun h11 => ?_)
            · refine wa_return (st := []) rfl rfl ?_
              exact ⟨Fs8, (by first | assumption | (((try simp only [vp_in_iff, Int32.lt_iff_toInt_lt, Int32.le_iff_toInt_le, ← Int32.toInt_inj, Int32.reduceToInt, n_1, n_2, n_8, Int32.toNatClampNeg, Int64.lt_iff_toInt_lt, Int64.le_iff_toInt_le, ← Int64.toInt_inj, Int64.reduceToInt, Int32.toInt_toInt64, lg_cmp_ge, lg_cmp_le, lg_cmp_gt, lg_cmp_lt, lg_cmp_eq, Bool.false_eq_true, Bool.true_eq_false, reduceCtorEq, false_iff, true_iff, iff_true, iff_false, and_true, true_and, and_false, false_and, reduceIte, ite_true, ite_false, eq_self] at *)) <;> omega)), trivial⟩
            · have mh11 := nle_mx h11
              refine wa_aload_n (i := 0) rfl rfl ?_
              refine wa_iload_n (i := 1) rfl rfl ?_
              refine wa_Vi (d9 := d - 1) [.int _] [] (sp_X9_slackSign G (d := d - 1) (by omega) s8 _ (by first | assumption | exact Or.inl rfl | exact Or.inr rfl | (((try simp only [vp_in_iff, Int32.lt_iff_toInt_lt, Int32.le_iff_toInt_le, ← Int32.toInt_inj, Int32.reduceToInt, n_1, n_2, n_8, Int32.toNatClampNeg, Int64.lt_iff_toInt_lt, Int64.le_iff_toInt_le, ← Int64.toInt_inj, Int64.reduceToInt, Int32.toInt_toInt64, lg_cmp_ge, lg_cmp_le, lg_cmp_gt, lg_cmp_lt, lg_cmp_eq, Bool.false_eq_true, Bool.true_eq_false, reduceCtorEq, false_iff, true_iff, iff_true, iff_false, and_true, true_and, and_false, false_and, reduceIte, ite_true, ite_false, eq_self] at *)) <;> omega))) (rfl) rfl rfl (zr (by omega)) mk_X9_slackSign ly_60 ml_9_153 (Nat.le_of_ble_eq_true rfl) (fun x13 s12 hs12 => ?_)
              obtain ⟨zs12, -⟩ := pI hs12
              subst zs12
              refine wa_if_ne o_X9_findBasis_124 (by decide) (fun h14 => ?_) (fun h14 => ?_)
              · refine wa_iinc (v := (1)) (lv' := fun y15 => [(1, .int y15), (0, .ref 60)]) (by decide) rfl (by decide) (fun _ => rfl) (fun y15 hy15 => ?_)
                have ty15 := i_addT hy15.symm
                clear hy15
                refine wa_goto o_X9_findBasis_46 (by decide) ?_
                refine wa_pick [1, 0] rfl ?_
                exact ih9 _ (by ((try simp only [vp_in_iff, Int32.lt_iff_toInt_lt, Int32.le_iff_toInt_le, ← Int32.toInt_inj, Int32.reduceToInt, n_1, n_2, n_8, Int32.toNatClampNeg, Int64.lt_iff_toInt_lt, Int64.le_iff_toInt_le, ← Int64.toInt_inj, Int64.reduceToInt, Int32.toInt_toInt64, lg_cmp_ge, lg_cmp_le, lg_cmp_gt, lg_cmp_lt, lg_cmp_eq, Bool.false_eq_true, Bool.true_eq_false, reduceCtorEq, false_iff, true_iff, iff_true, iff_false, and_true, true_and, and_false, false_and, reduceIte, ite_true, ite_false, eq_self] at *)) <;> omega) _ _ ⟨Fs8, (by ((try simp only [vp_in_iff, Int32.lt_iff_toInt_lt, Int32.le_iff_toInt_le, ← Int32.toInt_inj, Int32.reduceToInt, n_1, n_2, n_8, Int32.toNatClampNeg, Int64.lt_iff_toInt_lt, Int64.le_iff_toInt_le, ← Int64.toInt_inj, Int64.reduceToInt, Int32.toInt_toInt64, lg_cmp_ge, lg_cmp_le, lg_cmp_gt, lg_cmp_lt, lg_cmp_eq, Bool.false_eq_true, Bool.true_eq_false, reduceCtorEq, false_iff, true_iff, iff_true, iff_false, and_true, true_and, and_false, false_and, reduceIte, ite_true, ite_false, eq_self] at *)) <;> omega), (by first | assumption | (((try simp only [vp_in_iff, Int32.lt_iff_toInt_lt, Int32.le_iff_toInt_le, ← Int32.toInt_inj, Int32.reduceToInt, n_1, n_2, n_8, Int32.toNatClampNeg, Int64.lt_iff_toInt_lt, Int64.le_iff_toInt_le, ← Int64.toInt_inj, Int64.reduceToInt, Int32.toInt_toInt64, lg_cmp_ge, lg_cmp_le, lg_cmp_gt, lg_cmp_lt, lg_cmp_eq, Bool.false_eq_true, Bool.true_eq_false, reduceCtorEq, false_iff, true_iff, iff_true, iff_false, and_true, true_and, and_false, false_and, reduceIte, ite_true, ite_false, eq_self] at *)) <;> omega)), trivial⟩ rfl
              · refine wa_aload_n (i := 0) rfl rfl ?_
                refine wa_iload_n (i := 1) rfl rfl ?_
                refine wa_Vv (d9 := d - 1) [.int _] [] (sp_X9_mixOf G (d := d - 1) (by omega) s8 _ (by first | assumption | exact Or.inl rfl | exact Or.inr rfl | (((try simp only [vp_in_iff, Int32.lt_iff_toInt_lt, Int32.le_iff_toInt_le, ← Int32.toInt_inj, Int32.reduceToInt, n_1, n_2, n_8, Int32.toNatClampNeg, Int64.lt_iff_toInt_lt, Int64.le_iff_toInt_le, ← Int64.toInt_inj, Int64.reduceToInt, Int32.toInt_toInt64, lg_cmp_ge, lg_cmp_le, lg_cmp_gt, lg_cmp_lt, lg_cmp_eq, Bool.false_eq_true, Bool.true_eq_false, reduceCtorEq, false_iff, true_iff, iff_true, iff_false, and_true, true_and, and_false, false_and, reduceIte, ite_true, ite_false, eq_self] at *)) <;> omega))) (rfl) rfl rfl (zr (by omega)) mk_X9_mixOf ly_60 ml_9_137 (Nat.le_of_ble_eq_true rfl) (fun s16 hs16 => ?_)
                obtain ⟨fs16, -⟩ := hs16
                have Fs16 := Sm.tr Fs8 (Sm.wd fs16 (lo' := 60) (hi' := 66) (by decide) (by decide))
                refine wa_iconst (v := (-1)) (by decide) ?_
                refine wa_istore_nD (lv' := [(2, .int (-1)), (0, .ref 60), (1, .int l1)]) (i := 2) rfl (by decide) rfl ?_
                refine wa_aload_n (i := 0) rfl rfl ?_
                refine wa_geti ck_9 fl_9_62 ly_60 ?_
                refine wa_rw (Sm.gi fs16 12 (Or.inl (by decide))) ?_
                refine wa_iconst (v := 1) (by decide) ?_
                refine wa_isub ?_
                refine wa_top (fun v18 hv18 => ?_)
                have tv18 := i_subT hv18
                clear hv18
                refine wa_istore_nD (lv' := [(3, .int v18), (2, .int (-1)), (0, .ref 60), (1, .int l1)]) (i := 3) rfl (by decide) rfl ?_
                refine wa_pick [2, 3, 1, 0] rfl ?_
                have hi20 : ∀ (n9_76 : Nat) (l2 : Int32) (l3 : Int32), ((l3.toInt ≤ 3) ∧ (-1 ≤ l2.toInt ∧ l2.toInt ≤ 3) ∧ (True)) → (l3.toInt + 1).toNat = n9_76 → WA G M_X9_findBasis (ZM G M_X9_findBasis d (fun r σ' => Sm 60 66 σ σ' ∧ (0 ≤ (gi σ' 60 12).toInt ∧ (gi σ' 60 12).toInt ≤ 4) ∧ True)) B_X9_findBasis_76 [(0, .ref 60), (1, .int l1), (2, .int l2), (3, .int l3)] [] s16 := by
                  intro n9_76
                  induction n9_76 using Nat.strongRecOn with
                  | _ n9_76 ih19 =>
                    intro l2 l3  i9 m9_76
                    obtain ⟨jhi20_0, jhi20_1, -⟩ := i9
                    have ul2 := Int32.toInt_lt l2
                    have wl2 := Int32.le_toInt l2
                    have ul3 := Int32.toInt_lt l3
                    have wl3 := Int32.le_toInt l3
                    refine wa_iload_n (i := 3) rfl rfl ?_
                    refine wa_if_lt o_X9_findBasis_113 (by decide) (fun h21 => ?_) (fun h21 => ?_)
                    · refine wa_iload_n (i := 2) rfl rfl ?_
                      refine wa_iconst (v := (-1)) (by decide) ?_
                      refine wa_icmp_eq o_X9_findBasis_124 (by decide) (fun h22 => ?_) (fun h22 => ?_)
                      · refine wa_iinc (v := (1)) (lv' := fun y23 => [(1, .int y23), (0, .ref 60), (2, .int l2), (3, .int l3)]) (by decide) rfl (by decide) (fun _ => rfl) (fun y23 hy23 => ?_)
                        have ty23 := i_addT hy23.symm
                        clear hy23
                        refine wa_goto o_X9_findBasis_46 (by decide) ?_
                        refine wa_pick [1, 0] rfl ?_
                        exact ih9 _ (by ((try simp only [vp_in_iff, Int32.lt_iff_toInt_lt, Int32.le_iff_toInt_le, ← Int32.toInt_inj, Int32.reduceToInt, n_1, n_2, n_8, Int32.toNatClampNeg, Int64.lt_iff_toInt_lt, Int64.le_iff_toInt_le, ← Int64.toInt_inj, Int64.reduceToInt, Int32.toInt_toInt64, lg_cmp_ge, lg_cmp_le, lg_cmp_gt, lg_cmp_lt, lg_cmp_eq, Bool.false_eq_true, Bool.true_eq_false, reduceCtorEq, false_iff, true_iff, iff_true, iff_false, and_true, true_and, and_false, false_and, reduceIte, ite_true, ite_false, eq_self] at *)) <;> omega) _ _ ⟨Fs16, (by ((try simp only [vp_in_iff, Int32.lt_iff_toInt_lt, Int32.le_iff_toInt_le, ← Int32.toInt_inj, Int32.reduceToInt, n_1, n_2, n_8, Int32.toNatClampNeg, Int64.lt_iff_toInt_lt, Int64.le_iff_toInt_le, ← Int64.toInt_inj, Int64.reduceToInt, Int32.toInt_toInt64, lg_cmp_ge, lg_cmp_le, lg_cmp_gt, lg_cmp_lt, lg_cmp_eq, Bool.false_eq_true, Bool.true_eq_false, reduceCtorEq, false_iff, true_iff, iff_true, iff_false, and_true, true_and, and_false, false_and, reduceIte, ite_true, ite_false, eq_self] at *)) <;> omega), (by rw [Sm.gi fs16 12 (Or.inl (by decide))]; first | assumption | (((try simp only [vp_in_iff, Int32.lt_iff_toInt_lt, Int32.le_iff_toInt_le, ← Int32.toInt_inj, Int32.reduceToInt, n_1, n_2, n_8, Int32.toNatClampNeg, Int64.lt_iff_toInt_lt, Int64.le_iff_toInt_le, ← Int64.toInt_inj, Int64.reduceToInt, Int32.toInt_toInt64, lg_cmp_ge, lg_cmp_le, lg_cmp_gt, lg_cmp_lt, lg_cmp_eq, Bool.false_eq_true, Bool.true_eq_false, reduceCtorEq, false_iff, true_iff, iff_true, iff_false, and_true, true_and, and_false, false_and, reduceIte, ite_true, ite_false, eq_self] at *)) <;> omega)), trivial⟩ rfl
                      · refine wa_aload_n (i := 0) rfl rfl ?_
                        refine wa_iload_n (i := 2) rfl rfl ?_
                        refine wa_iload_n (i := 1) rfl rfl ?_
                        refine wa_Vv (d9 := d - 1) [.int _, .int _] [] (sp_X9_exchange G (d := d - 1) (by omega) s16 _ _ (by ((try simp only [vp_in_iff, Int32.lt_iff_toInt_lt, Int32.le_iff_toInt_le, ← Int32.toInt_inj, Int32.reduceToInt, n_1, n_2, n_8, Int32.toNatClampNeg, Int64.lt_iff_toInt_lt, Int64.le_iff_toInt_le, ← Int64.toInt_inj, Int64.reduceToInt, Int32.toInt_toInt64, lg_cmp_ge, lg_cmp_le, lg_cmp_gt, lg_cmp_lt, lg_cmp_eq, Bool.false_eq_true, Bool.true_eq_false, reduceCtorEq, false_iff, true_iff, iff_true, iff_false, and_true, true_and, and_false, false_and, reduceIte, ite_true, ite_false, eq_self] at *)) <;> omega) (by rw [Sm.gi fs16 12 (Or.inl (by decide))]; first | assumption | exact Or.inl rfl | exact Or.inr rfl | (((try simp only [vp_in_iff, Int32.lt_iff_toInt_lt, Int32.le_iff_toInt_le, ← Int32.toInt_inj, Int32.reduceToInt, n_1, n_2, n_8, Int32.toNatClampNeg, Int64.lt_iff_toInt_lt, Int64.le_iff_toInt_le, ← Int64.toInt_inj, Int64.reduceToInt, Int32.toInt_toInt64, lg_cmp_ge, lg_cmp_le, lg_cmp_gt, lg_cmp_lt, lg_cmp_eq, Bool.false_eq_true, Bool.true_eq_false, reduceCtorEq, false_iff, true_iff, iff_true, iff_false, and_true, true_and, and_false, false_and, reduceIte, ite_true, ite_false, eq_self] at *)) <;> omega))) (rfl) rfl rfl (zr (by omega)) mk_X9_exchange ly_60 ml_9_143 (Nat.le_of_ble_eq_true rfl) (fun s24 hs24 => ?_)
                        obtain ⟨fs24, cx25_1, -⟩ := hs24
                        have Fs24 := Sm.tr Fs16 (Sm.wd fs24 (lo' := 60) (hi' := 66) (by decide) (by decide))
                        refine wa_iinc (v := (1)) (lv' := fun y26 => [(1, .int y26), (0, .ref 60), (2, .int l2), (3, .int l3)]) (by decide) rfl (by decide) (fun _ => rfl) (fun y26 hy26 => ?_)
                        have ty26 := i_addT hy26.symm
                        clear hy26
                        refine wa_goto o_X9_findBasis_46 (by decide) ?_
                        refine wa_pick [1, 0] rfl ?_
                        exact ih9 _ (by ((try simp only [vp_in_iff, Int32.lt_iff_toInt_lt, Int32.le_iff_toInt_le, ← Int32.toInt_inj, Int32.reduceToInt, n_1, n_2, n_8, Int32.toNatClampNeg, Int64.lt_iff_toInt_lt, Int64.le_iff_toInt_le, ← Int64.toInt_inj, Int64.reduceToInt, Int32.toInt_toInt64, lg_cmp_ge, lg_cmp_le, lg_cmp_gt, lg_cmp_lt, lg_cmp_eq, Bool.false_eq_true, Bool.true_eq_false, reduceCtorEq, false_iff, true_iff, iff_true, iff_false, and_true, true_and, and_false, false_and, reduceIte, ite_true, ite_false, eq_self] at *)) <;> omega) _ _ ⟨Fs24, (by ((try simp only [vp_in_iff, Int32.lt_iff_toInt_lt, Int32.le_iff_toInt_le, ← Int32.toInt_inj, Int32.reduceToInt, n_1, n_2, n_8, Int32.toNatClampNeg, Int64.lt_iff_toInt_lt, Int64.le_iff_toInt_le, ← Int64.toInt_inj, Int64.reduceToInt, Int32.toInt_toInt64, lg_cmp_ge, lg_cmp_le, lg_cmp_gt, lg_cmp_lt, lg_cmp_eq, Bool.false_eq_true, Bool.true_eq_false, reduceCtorEq, false_iff, true_iff, iff_true, iff_false, and_true, true_and, and_false, false_and, reduceIte, ite_true, ite_false, eq_self] at *)) <;> omega), (by first | assumption | (((try simp only [vp_in_iff, Int32.lt_iff_toInt_lt, Int32.le_iff_toInt_le, ← Int32.toInt_inj, Int32.reduceToInt, n_1, n_2, n_8, Int32.toNatClampNeg, Int64.lt_iff_toInt_lt, Int64.le_iff_toInt_le, ← Int64.toInt_inj, Int64.reduceToInt, Int32.toInt_toInt64, lg_cmp_ge, lg_cmp_le, lg_cmp_gt, lg_cmp_lt, lg_cmp_eq, Bool.false_eq_true, Bool.true_eq_false, reduceCtorEq, false_iff, true_iff, iff_true, iff_false, and_true, true_and, and_false, false_and, reduceIte, ite_true, ite_false, eq_self] at *)) <;> omega)), trivial⟩ rfl
                    · refine wa_aload_n (i := 0) rfl rfl ?_
                      refine wa_getr ck_9 fl_9_18 ly_60 rf_60_2 ?_
                      refine wa_iload_n (i := 3) rfl rfl ?_
                      refine wa_iald ly_63 (by ((try simp only [vp_in_iff, Int32.lt_iff_toInt_lt, Int32.le_iff_toInt_le, ← Int32.toInt_inj, Int32.reduceToInt, n_1, n_2, n_8, Int32.toNatClampNeg, Int64.lt_iff_toInt_lt, Int64.le_iff_toInt_le, ← Int64.toInt_inj, Int64.reduceToInt, Int32.toInt_toInt64, lg_cmp_ge, lg_cmp_le, lg_cmp_gt, lg_cmp_lt, lg_cmp_eq, Bool.false_eq_true, Bool.true_eq_false, reduceCtorEq, false_iff, true_iff, iff_true, iff_false, and_true, true_and, and_false, false_and, reduceIte, ite_true, ite_false, eq_self] at *)) <;> omega) ?_
                      refine wa_iconst (v := (-1)) (by decide) ?_
                      refine wa_icmp_ne o_X9_findBasis_105 (by decide) (fun h27 => ?_) (fun h27 => ?_)
                      · refine wa_iload_n (i := 2) rfl rfl ?_
                        refine wa_istore_nD (lv' := [(2, .int l2), (0, .ref 60), (1, .int l1), (3, .int l3)]) (i := 2) rfl (by decide) rfl ?_
                        refine wa_iinc (v := (-1)) (lv' := fun y28 => [(3, .int y28), (2, .int l2), (0, .ref 60), (1, .int l1)]) (by decide) rfl (by decide) (fun _ => rfl) (fun y28 hy28 => ?_)
                        have ty28 := i_addT hy28.symm
                        clear hy28
                        refine wa_goto o_X9_findBasis_76 (by decide) ?_
                        refine wa_pick [2, 3, 1, 0] rfl ?_
                        exact ih19 _ (by ((try simp only [vp_in_iff, Int32.lt_iff_toInt_lt, Int32.le_iff_toInt_le, ← Int32.toInt_inj, Int32.reduceToInt, n_1, n_2, n_8, Int32.toNatClampNeg, Int64.lt_iff_toInt_lt, Int64.le_iff_toInt_le, ← Int64.toInt_inj, Int64.reduceToInt, Int32.toInt_toInt64, lg_cmp_ge, lg_cmp_le, lg_cmp_gt, lg_cmp_lt, lg_cmp_eq, Bool.false_eq_true, Bool.true_eq_false, reduceCtorEq, false_iff, true_iff, iff_true, iff_false, and_true, true_and, and_false, false_and, reduceIte, ite_true, ite_false, eq_self] at *)) <;> omega) _ _ ⟨(by ((try simp only [vp_in_iff, Int32.lt_iff_toInt_lt, Int32.le_iff_toInt_le, ← Int32.toInt_inj, Int32.reduceToInt, n_1, n_2, n_8, Int32.toNatClampNeg, Int64.lt_iff_toInt_lt, Int64.le_iff_toInt_le, ← Int64.toInt_inj, Int64.reduceToInt, Int32.toInt_toInt64, lg_cmp_ge, lg_cmp_le, lg_cmp_gt, lg_cmp_lt, lg_cmp_eq, Bool.false_eq_true, Bool.true_eq_false, reduceCtorEq, false_iff, true_iff, iff_true, iff_false, and_true, true_and, and_false, false_and, reduceIte, ite_true, ite_false, eq_self] at *)) <;> omega), (by ((try simp only [vp_in_iff, Int32.lt_iff_toInt_lt, Int32.le_iff_toInt_le, ← Int32.toInt_inj, Int32.reduceToInt, n_1, n_2, n_8, Int32.toNatClampNeg, Int64.lt_iff_toInt_lt, Int64.le_iff_toInt_le, ← Int64.toInt_inj, Int64.reduceToInt, Int32.toInt_toInt64, lg_cmp_ge, lg_cmp_le, lg_cmp_gt, lg_cmp_lt, lg_cmp_eq, Bool.false_eq_true, Bool.true_eq_false, reduceCtorEq, false_iff, true_iff, iff_true, iff_false, and_true, true_and, and_false, false_and, reduceIte, ite_true, ite_false, eq_self] at *)) <;> omega), trivial⟩ rfl
                      · refine wa_aload_n (i := 0) rfl rfl ?_
                        refine wa_getr ck_9 fl_9_25 ly_60 rf_60_4 ?_
                        refine wa_iload_n (i := 3) rfl rfl ?_
                        refine wa_lald ly_65 (by ((try simp only [vp_in_iff, Int32.lt_iff_toInt_lt, Int32.le_iff_toInt_le, ← Int32.toInt_inj, Int32.reduceToInt, n_1, n_2, n_8, Int32.toNatClampNeg, Int64.lt_iff_toInt_lt, Int64.le_iff_toInt_le, ← Int64.toInt_inj, Int64.reduceToInt, Int32.toInt_toInt64, lg_cmp_ge, lg_cmp_le, lg_cmp_gt, lg_cmp_lt, lg_cmp_eq, Bool.false_eq_true, Bool.true_eq_false, reduceCtorEq, false_iff, true_iff, iff_true, iff_false, and_true, true_and, and_false, false_and, reduceIte, ite_true, ite_false, eq_self] at *)) <;> omega) ?_
                        refine wa_lconst (v := 0) (by decide) ?_
                        refine wa_lcmp ?_
                        refine wa_top (fun v29 hv29 => ?_)
                        have tv29 := i_cmpT hv29
                        clear hv29
                        refine wa_if_eq o_X9_findBasis_105 (by decide) (fun h30 => ?_) (fun h30 => ?_)
                        · refine wa_iload_n (i := 2) rfl rfl ?_
                          refine wa_istore_nD (lv' := [(2, .int l2), (0, .ref 60), (1, .int l1), (3, .int l3)]) (i := 2) rfl (by decide) rfl ?_
                          refine wa_iinc (v := (-1)) (lv' := fun y31 => [(3, .int y31), (2, .int l2), (0, .ref 60), (1, .int l1)]) (by decide) rfl (by decide) (fun _ => rfl) (fun y31 hy31 => ?_)
                          have ty31 := i_addT hy31.symm
                          clear hy31
                          refine wa_goto o_X9_findBasis_76 (by decide) ?_
                          refine wa_pick [2, 3, 1, 0] rfl ?_
                          exact ih19 _ (by ((try simp only [vp_in_iff, Int32.lt_iff_toInt_lt, Int32.le_iff_toInt_le, ← Int32.toInt_inj, Int32.reduceToInt, n_1, n_2, n_8, Int32.toNatClampNeg, Int64.lt_iff_toInt_lt, Int64.le_iff_toInt_le, ← Int64.toInt_inj, Int64.reduceToInt, Int32.toInt_toInt64, lg_cmp_ge, lg_cmp_le, lg_cmp_gt, lg_cmp_lt, lg_cmp_eq, Bool.false_eq_true, Bool.true_eq_false, reduceCtorEq, false_iff, true_iff, iff_true, iff_false, and_true, true_and, and_false, false_and, reduceIte, ite_true, ite_false, eq_self] at *)) <;> omega) _ _ ⟨(by ((try simp only [vp_in_iff, Int32.lt_iff_toInt_lt, Int32.le_iff_toInt_le, ← Int32.toInt_inj, Int32.reduceToInt, n_1, n_2, n_8, Int32.toNatClampNeg, Int64.lt_iff_toInt_lt, Int64.le_iff_toInt_le, ← Int64.toInt_inj, Int64.reduceToInt, Int32.toInt_toInt64, lg_cmp_ge, lg_cmp_le, lg_cmp_gt, lg_cmp_lt, lg_cmp_eq, Bool.false_eq_true, Bool.true_eq_false, reduceCtorEq, false_iff, true_iff, iff_true, iff_false, and_true, true_and, and_false, false_and, reduceIte, ite_true, ite_false, eq_self] at *)) <;> omega), (by ((try simp only [vp_in_iff, Int32.lt_iff_toInt_lt, Int32.le_iff_toInt_le, ← Int32.toInt_inj, Int32.reduceToInt, n_1, n_2, n_8, Int32.toNatClampNeg, Int64.lt_iff_toInt_lt, Int64.le_iff_toInt_le, ← Int64.toInt_inj, Int64.reduceToInt, Int32.toInt_toInt64, lg_cmp_ge, lg_cmp_le, lg_cmp_gt, lg_cmp_lt, lg_cmp_eq, Bool.false_eq_true, Bool.true_eq_false, reduceCtorEq, false_iff, true_iff, iff_true, iff_false, and_true, true_and, and_false, false_and, reduceIte, ite_true, ite_false, eq_self] at *)) <;> omega), trivial⟩ rfl
                        · refine wa_iload_n (i := 3) rfl rfl ?_
                          refine wa_goto o_X9_findBasis_106 (by decide) ?_
                          refine wa_istore_nD (lv' := [(2, .int l3), (0, .ref 60), (1, .int l1), (3, .int l3)]) (i := 2) rfl (by decide) rfl ?_
                          refine wa_iinc (v := (-1)) (lv' := fun y32 => [(3, .int y32), (2, .int l3), (0, .ref 60), (1, .int l1)]) (by decide) rfl (by decide) (fun _ => rfl) (fun y32 hy32 => ?_)
                          have ty32 := i_addT hy32.symm
                          clear hy32
                          refine wa_goto o_X9_findBasis_76 (by decide) ?_
                          refine wa_pick [2, 3, 1, 0] rfl ?_
                          exact ih19 _ (by ((try simp only [vp_in_iff, Int32.lt_iff_toInt_lt, Int32.le_iff_toInt_le, ← Int32.toInt_inj, Int32.reduceToInt, n_1, n_2, n_8, Int32.toNatClampNeg, Int64.lt_iff_toInt_lt, Int64.le_iff_toInt_le, ← Int64.toInt_inj, Int64.reduceToInt, Int32.toInt_toInt64, lg_cmp_ge, lg_cmp_le, lg_cmp_gt, lg_cmp_lt, lg_cmp_eq, Bool.false_eq_true, Bool.true_eq_false, reduceCtorEq, false_iff, true_iff, iff_true, iff_false, and_true, true_and, and_false, false_and, reduceIte, ite_true, ite_false, eq_self] at *)) <;> omega) _ _ ⟨(by ((try simp only [vp_in_iff, Int32.lt_iff_toInt_lt, Int32.le_iff_toInt_le, ← Int32.toInt_inj, Int32.reduceToInt, n_1, n_2, n_8, Int32.toNatClampNeg, Int64.lt_iff_toInt_lt, Int64.le_iff_toInt_le, ← Int64.toInt_inj, Int64.reduceToInt, Int32.toInt_toInt64, lg_cmp_ge, lg_cmp_le, lg_cmp_gt, lg_cmp_lt, lg_cmp_eq, Bool.false_eq_true, Bool.true_eq_false, reduceCtorEq, false_iff, true_iff, iff_true, iff_false, and_true, true_and, and_false, false_and, reduceIte, ite_true, ite_false, eq_self] at *)) <;> omega), (by ((try simp only [vp_in_iff, Int32.lt_iff_toInt_lt, Int32.le_iff_toInt_le, ← Int32.toInt_inj, Int32.reduceToInt, n_1, n_2, n_8, Int32.toNatClampNeg, Int64.lt_iff_toInt_lt, Int64.le_iff_toInt_le, ← Int64.toInt_inj, Int64.reduceToInt, Int32.toInt_toInt64, lg_cmp_ge, lg_cmp_le, lg_cmp_gt, lg_cmp_lt, lg_cmp_eq, Bool.false_eq_true, Bool.true_eq_false, reduceCtorEq, false_iff, true_iff, iff_true, iff_false, and_true, true_and, and_false, false_and, reduceIte, ite_true, ite_false, eq_self] at *)) <;> omega), trivial⟩ rfl
                exact hi20 _ _ _ ⟨(by ((try simp only [vp_in_iff, Int32.lt_iff_toInt_lt, Int32.le_iff_toInt_le, ← Int32.toInt_inj, Int32.reduceToInt, n_1, n_2, n_8, Int32.toNatClampNeg, Int64.lt_iff_toInt_lt, Int64.le_iff_toInt_le, ← Int64.toInt_inj, Int64.reduceToInt, Int32.toInt_toInt64, lg_cmp_ge, lg_cmp_le, lg_cmp_gt, lg_cmp_lt, lg_cmp_eq, Bool.false_eq_true, Bool.true_eq_false, reduceCtorEq, false_iff, true_iff, iff_true, iff_false, and_true, true_and, and_false, false_and, reduceIte, ite_true, ite_false, eq_self] at *)) <;> omega), (by ((try simp only [vp_in_iff, Int32.lt_iff_toInt_lt, Int32.le_iff_toInt_le, ← Int32.toInt_inj, Int32.reduceToInt, n_1, n_2, n_8, Int32.toNatClampNeg, Int64.lt_iff_toInt_lt, Int64.le_iff_toInt_le, ← Int64.toInt_inj, Int64.reduceToInt, Int32.toInt_toInt64, lg_cmp_ge, lg_cmp_le, lg_cmp_gt, lg_cmp_lt, lg_cmp_eq, Bool.false_eq_true, Bool.true_eq_false, reduceCtorEq, false_iff, true_iff, iff_true, iff_false, and_true, true_and, and_false, false_and, reduceIte, ite_true, ite_false, eq_self] at *)) <;> omega), trivial⟩ rfl
        exact hi10 _ _ _ ⟨Fs4, (by ((try simp only [vp_in_iff, Int32.lt_iff_toInt_lt, Int32.le_iff_toInt_le, ← Int32.toInt_inj, Int32.reduceToInt, n_1, n_2, n_8, Int32.toNatClampNeg, Int64.lt_iff_toInt_lt, Int64.le_iff_toInt_le, ← Int64.toInt_inj, Int64.reduceToInt, Int32.toInt_toInt64, lg_cmp_ge, lg_cmp_le, lg_cmp_gt, lg_cmp_lt, lg_cmp_eq, Bool.false_eq_true, Bool.true_eq_false, reduceCtorEq, false_iff, true_iff, iff_true, iff_false, and_true, true_and, and_false, false_and, reduceIte, ite_true, ite_false, eq_self] at *)) <;> omega), (by rw [khi6_0]; first | assumption | (((try simp only [vp_in_iff, Int32.lt_iff_toInt_lt, Int32.le_iff_toInt_le, ← Int32.toInt_inj, Int32.reduceToInt, n_1, n_2, n_8, Int32.toNatClampNeg, Int64.lt_iff_toInt_lt, Int64.le_iff_toInt_le, ← Int64.toInt_inj, Int64.reduceToInt, Int32.toInt_toInt64, lg_cmp_ge, lg_cmp_le, lg_cmp_gt, lg_cmp_lt, lg_cmp_eq, Bool.false_eq_true, Bool.true_eq_false, reduceCtorEq, false_iff, true_iff, iff_true, iff_false, and_true, true_and, and_false, false_and, reduceIte, ite_true, ite_false, eq_self] at *)) <;> omega)), trivial⟩ rfl
      · have mh7 := nle_mx h7
        refine wa_aload_n (i := 0) rfl rfl ?_
        refine wa_getr ck_9 fl_9_22 ly_60 rf_60_3 ?_
        refine wa_iload_n (i := 1) rfl rfl ?_
        refine wa_iconst (v := 4) (by decide) ?_
        refine wa_imul ?_
        refine wa_top (fun v33 hv33 => ?_)
        have tv33 := i_mulT hv33
        clear hv33
        refine wa_iload_n (i := 1) rfl rfl ?_
        refine wa_iadd ?_
        refine wa_top (fun v34 hv34 => ?_)
        have tv34 := i_addT hv34
        clear hv34
        refine wa_lconst (v := 1) (by decide) ?_
        refine wa_last ly_64 (by ((try simp only [vp_in_iff, Int32.lt_iff_toInt_lt, Int32.le_iff_toInt_le, ← Int32.toInt_inj, Int32.reduceToInt, n_1, n_2, n_8, Int32.toNatClampNeg, Int64.lt_iff_toInt_lt, Int64.le_iff_toInt_le, ← Int64.toInt_inj, Int64.reduceToInt, Int32.toInt_toInt64, lg_cmp_ge, lg_cmp_le, lg_cmp_gt, lg_cmp_lt, lg_cmp_eq, Bool.false_eq_true, Bool.true_eq_false, reduceCtorEq, false_iff, true_iff, iff_true, iff_false, and_true, true_and, and_false, false_and, reduceIte, ite_true, ite_false, eq_self] at *)) <;> omega) (fun s35 hs35 => ?_)
        have Fs35 : Sm 60 66 σ s35 := by rw [hs35]; exact Sm.sl Fs4 _ _ (by decide) (by decide)
        refine wa_aload_n (i := 0) rfl rfl ?_
        refine wa_getr ck_9 fl_9_18 ly_60 rf_60_2 ?_
        refine wa_iload_n (i := 1) rfl rfl ?_
        refine wa_iconst (v := (-1)) (by decide) ?_
        refine wa_iast ly_63 (by ((try simp only [vp_in_iff, Int32.lt_iff_toInt_lt, Int32.le_iff_toInt_le, ← Int32.toInt_inj, Int32.reduceToInt, n_1, n_2, n_8, Int32.toNatClampNeg, Int64.lt_iff_toInt_lt, Int64.le_iff_toInt_le, ← Int64.toInt_inj, Int64.reduceToInt, Int32.toInt_toInt64, lg_cmp_ge, lg_cmp_le, lg_cmp_gt, lg_cmp_lt, lg_cmp_eq, Bool.false_eq_true, Bool.true_eq_false, reduceCtorEq, false_iff, true_iff, iff_true, iff_false, and_true, true_and, and_false, false_and, reduceIte, ite_true, ite_false, eq_self] at *)) <;> omega) (fun s36 hs36 => ?_)
        have Fs36 : Sm 60 66 σ s36 := by rw [hs36]; exact Sm.si Fs35 _ _ (by decide) (by decide)
        refine wa_iinc (v := (1)) (lv' := fun y37 => [(1, .int y37), (0, .ref 60)]) (by decide) rfl (by decide) (fun _ => rfl) (fun y37 hy37 => ?_)
        have ty37 := i_addT hy37.symm
        clear hy37
        refine wa_goto o_X9_findBasis_15 (by decide) ?_
        refine wa_pick [1, 0] rfl ?_
        exact ih5 _ (by ((try simp only [vp_in_iff, Int32.lt_iff_toInt_lt, Int32.le_iff_toInt_le, ← Int32.toInt_inj, Int32.reduceToInt, n_1, n_2, n_8, Int32.toNatClampNeg, Int64.lt_iff_toInt_lt, Int64.le_iff_toInt_le, ← Int64.toInt_inj, Int64.reduceToInt, Int32.toInt_toInt64, lg_cmp_ge, lg_cmp_le, lg_cmp_gt, lg_cmp_lt, lg_cmp_eq, Bool.false_eq_true, Bool.true_eq_false, reduceCtorEq, false_iff, true_iff, iff_true, iff_false, and_true, true_and, and_false, false_and, reduceIte, ite_true, ite_false, eq_self] at *)) <;> omega) _ _ ⟨Fs36, ((nxq_gi_si hs36 (by decide)).trans ((nx_gi_sl hs35).trans (khi6_0))), ((nxq_gi_si hs36 (by decide)).trans ((nx_gi_sl hs35).trans (khi6_1))), (by ((try simp only [vp_in_iff, Int32.lt_iff_toInt_lt, Int32.le_iff_toInt_le, ← Int32.toInt_inj, Int32.reduceToInt, n_1, n_2, n_8, Int32.toNatClampNeg, Int64.lt_iff_toInt_lt, Int64.le_iff_toInt_le, ← Int64.toInt_inj, Int64.reduceToInt, Int32.toInt_toInt64, lg_cmp_ge, lg_cmp_le, lg_cmp_gt, lg_cmp_lt, lg_cmp_eq, Bool.false_eq_true, Bool.true_eq_false, reduceCtorEq, false_iff, true_iff, iff_true, iff_false, and_true, true_and, and_false, false_and, reduceIte, ite_true, ite_false, eq_self] at *)) <;> omega), trivial⟩ rfl
  exact hi6 _ _ _ ⟨Fs3, ((nx_gi_sl hs3).trans (Sm.gi fs1 12 (Or.inl (by decide)))), ((nx_gi_sl hs3).trans (Sm.gi fs1 11 (Or.inl (by decide)))), (by ((try simp only [vp_in_iff, Int32.lt_iff_toInt_lt, Int32.le_iff_toInt_le, ← Int32.toInt_inj, Int32.reduceToInt, n_1, n_2, n_8, Int32.toNatClampNeg, Int64.lt_iff_toInt_lt, Int64.le_iff_toInt_le, ← Int64.toInt_inj, Int64.reduceToInt, Int32.toInt_toInt64, lg_cmp_ge, lg_cmp_le, lg_cmp_gt, lg_cmp_lt, lg_cmp_eq, Bool.false_eq_true, Bool.true_eq_false, reduceCtorEq, false_iff, true_iff, iff_true, iff_false, and_true, true_and, and_false, false_and, reduceIte, ite_true, ite_false, eq_self] at *)) <;> omega), trivial⟩ rfl
set_option maxHeartbeats 4000000 in
theorem sp_X9_finishCut (G : kG9) {d : Nat} (hd : 1 ≤ d) (σ : St) (a0 : Int64) (a1 : Int64) (r1 : 0 ≤ (gi σ 60 12).toInt ∧ (gi σ 60 12).toInt ≤ 4) : Ct G M_X9_finishCut d [.ref 60, .long a0, .long a1] σ (fun r σ' => ∃ x : Bool, r = some (.int (bI x)) ∧ Sm 60 62 σ σ' ∧ (0 ≤ (gi σ' 60 12).toInt ∧ (gi σ' 60 12).toInt ≤ 4) ∧ True) := by
  refine wa_start (by decide) rfl (Nat.le_of_ble_eq_true rfl) (lv := [(0, .ref 60), (1, .long a0), (3, .long a1)]) rfl o_X9_finishCut_0 rfl ?_
  refine wa_lconst (v := 0) (by decide) ?_
  refine wa_lstoreD (lv' := [(5, .long 0), (0, .ref 60), (1, .long a0), (3, .long a1)]) (by decide) rfl ?_
  refine wa_iconst (v := 0) (by decide) ?_
  refine wa_istoreD (lv' := [(7, .int 0), (5, .long 0), (0, .ref 60), (1, .long a0), (3, .long a1)]) (by decide) rfl ?_
  refine wa_pick [2, 3, 4, 1, 0] rfl ?_
  have hi3 : ∀ (n9_6 : Nat) (l5 : Int64) (l7 : Int32) (s1 : St), ((Sm 60 62 σ s1) ∧ (gi s1 60 12 = gi σ 60 12) ∧ (gi s1 60 11 = gi σ 60 11) ∧ (0 ≤ l7.toInt) ∧ (True)) → (2147483647 - l7.toInt).toNat = n9_6 → WA G M_X9_finishCut (ZM G M_X9_finishCut d (fun r σ' => ∃ x : Bool, r = some (.int (bI x)) ∧ Sm 60 62 σ σ' ∧ (0 ≤ (gi σ' 60 12).toInt ∧ (gi σ' 60 12).toInt ≤ 4) ∧ True)) B_X9_finishCut_6 [(0, .ref 60), (1, .long a0), (3, .long a1), (5, .long l5), (7, .int l7)] [] s1 := by
    intro n9_6
    induction n9_6 using Nat.strongRecOn with
    | _ n9_6 ih2 =>
      intro l5 l7 s1 i9 m9_6
      obtain ⟨Fs1, khi3_0, khi3_1, jhi3_0, -⟩ := i9
      have ul7 := Int32.toInt_lt l7
      have wl7 := Int32.le_toInt l7
      refine wa_iload rfl ?_
      refine wa_aload_n (i := 0) rfl rfl ?_
      refine wa_geti ck_9 fl_9_62 ly_60 ?_
      refine wa_rw (khi3_0) ?_
      refine wa_icmp_ge o_X9_finishCut_64 (by decide) (fun h4 => ?_) (fun h4 => ?_)
      · refine wa_lconst (v := 1) (by decide) ?_
        refine wa_lload rfl ?_
        refine wa_maxL zs (allW_in (kT_7 _ (List.mem_of_getElem? (i := 236) rfl)) rfl) (Nat.le_of_ble_eq_true rfl) ?_
        refine wa_topl (fun v5 hv5 => ?_)
        have tv5 := i_maxL hv5
        clear hv5
        refine wa_lstoreD (lv' := [(5, .long v5), (0, .ref 60), (1, .long a0), (3, .long a1), (7, .int l7)]) (by decide) rfl ?_
        refine wa_aload_n (i := 0) rfl rfl ?_
        refine wa_aload_n (i := 0) rfl rfl ?_
        refine wa_geti ck_9 fl_9_44 ly_60 ?_
        refine wa_rw (khi3_1) ?_
        refine wa_iconst (v := 4) (by decide) ?_
        refine wa_lload_n (i := 3) rfl rfl ?_
        refine wa_lload rfl ?_
        refine wa_Sl (d9 := d - 1) [.long _, .long _] [.int 4, .int (gi σ 60 11), .ref 60] (sp_J9_floorDiv_f86c9 G (d := d - 1) (by omega) s1 _ _ (by ((try simp only [vp_in_iff, Int32.lt_iff_toInt_lt, Int32.le_iff_toInt_le, ← Int32.toInt_inj, Int32.reduceToInt, n_1, n_2, n_8, Int32.toNatClampNeg, Int64.lt_iff_toInt_lt, Int64.le_iff_toInt_le, ← Int64.toInt_inj, Int64.reduceToInt, Int32.toInt_toInt64, lg_cmp_ge, lg_cmp_le, lg_cmp_gt, lg_cmp_lt, lg_cmp_eq, Bool.false_eq_true, Bool.true_eq_false, reduceCtorEq, false_iff, true_iff, iff_true, iff_false, and_true, true_and, and_false, false_and, reduceIte, ite_true, ite_false, eq_self] at *)) <;> omega)) (rfl) rfl rfl (zr (by omega)) mk_J9_floorDiv_f86c9 ml_9_176 (Nat.le_of_ble_eq_true rfl) (fun x7 s6 hs6 => ?_)
        obtain ⟨zs6, -⟩ := pL hs6
        subst zs6
        refine wa_Vv (d9 := d - 1) [.int _, .int _, .long _] [] (sp_X9_setRow G (d := d - 1) (by omega) s1 _ _ _) (rfl) rfl rfl (zr (by omega)) mk_X9_setRow ly_60 ml_9_91 (Nat.le_of_ble_eq_true rfl) (fun s8 hs8 => ?_)
        obtain ⟨fs8, -⟩ := hs8
        have Fs8 := Sm.tr Fs1 (Sm.wd fs8 (lo' := 60) (hi' := 62) (by decide) (by decide))
        refine wa_aload_n (i := 0) rfl rfl ?_
        refine wa_aload_n (i := 0) rfl rfl ?_
        refine wa_geti ck_9 fl_9_44 ly_60 ?_
        refine wa_rw ((Sm.gi fs8 11 (Or.inl (by decide))).trans (khi3_1)) ?_
        refine wa_iconst (v := 4) (by decide) ?_
        refine wa_Vl (d9 := d - 1) [.int _, .int _] [] (sp_X9_rowNumber G (d := d - 1) (by omega) s8 _ _) (rfl) rfl rfl (zr (by omega)) mk_X9_rowNumber ly_60 ml_9_99 (Nat.le_of_ble_eq_true rfl) (fun x11 s10 hs10 => ?_)
        obtain ⟨zs10, -⟩ := pL hs10
        subst zs10
        refine wa_Si (d9 := d - 1) [.long _] [] (sp_X9_isLimit G (d := d - 1) (by omega) s8 _) (rfl) rfl rfl (zr (by omega)) mk_X9_isLimit ml_9_195 (Nat.le_of_ble_eq_true rfl) (fun x13 s12 hs12 => ?_)
        obtain ⟨bx13, ex13, zs12, -⟩ := pB hs12
        subst ex13
        subst zs12
        refine wa_istoreD (lv' := [(7, .int (bI bx13)), (5, .long v5), (0, .ref 60), (1, .long a0), (3, .long a1)]) (by decide) rfl ?_
        refine wa_iconst (v := 0) (by decide) ?_
        refine wa_istoreD (lv' := [(8, .int 0), (7, .int (bI bx13)), (5, .long v5), (0, .ref 60), (1, .long a0), (3, .long a1)]) (by decide) rfl ?_
        refine wa_pick [3, 2, 1, 0] rfl ?_
        have hi16 : ∀ (n9_104 : Nat) (l7 : Bool) (l8 : Int32) (s14 : St), ((Sm 60 62 σ s14) ∧ (gi s14 60 12 = gi σ 60 12) ∧ (gi s14 60 11 = gi σ 60 11) ∧ (0 ≤ l8.toInt) ∧ (True)) → (2147483647 - l8.toInt).toNat = n9_104 → WA G M_X9_finishCut (ZM G M_X9_finishCut d (fun r σ' => ∃ x : Bool, r = some (.int (bI x)) ∧ Sm 60 62 σ σ' ∧ (0 ≤ (gi σ' 60 12).toInt ∧ (gi σ' 60 12).toInt ≤ 4) ∧ True)) B_X9_finishCut_104 [(0, .ref 60), (5, .long v5), (7, .int (bI l7)), (8, .int l8)] [] s14 := by
          intro n9_104
          induction n9_104 using Nat.strongRecOn with
          | _ n9_104 ih15 =>
            intro l7 l8 s14 i9 m9_104
            obtain ⟨Fs14, khi16_0, khi16_1, jhi16_0, -⟩ := i9
            have ul8 := Int32.toInt_lt l8
            have wl8 := Int32.le_toInt l8
            refine wa_iload rfl ?_
            refine wa_aload_n (i := 0) rfl rfl ?_
            refine wa_geti ck_9 fl_9_62 ly_60 ?_
            refine wa_rw (khi16_0) ?_
            refine wa_icmp_ge o_X9_finishCut_172 (by decide) (fun h17 => ?_) (fun h17 => ?_)
            · refine wa_aload_n (i := 0) rfl rfl ?_
              refine wa_iload rfl ?_
              refine wa_if_eq o_X9_finishCut_193 (by decide) (fun h18 => ?_) (fun h18 => ?_)
              · replace h18 := bI_f (b := l7) (rfl) h18
                refine wa_aload_n (i := 0) rfl rfl ?_
                refine wa_geti ck_9 fl_9_44 ly_60 ?_
                refine wa_rw (khi16_1) ?_
                refine wa_puti ck_9 fl_9_44 ly_60 (fun s19 hs19 => ?_)
                have Fs19 : Sm 60 62 σ s19 := by rw [hs19]; exact Sm.si Fs14 _ _ (by decide) (by decide)
                refine wa_iload rfl ?_
                refine wa_zreturn l7 (rfl) rfl rfl ?_
                exact ⟨_, rfl, Fs19, (by rw [(nxk_gi_si hs19 (by decide)).trans (khi16_0)]; first | assumption | (((try simp only [vp_in_iff, Int32.lt_iff_toInt_lt, Int32.le_iff_toInt_le, ← Int32.toInt_inj, Int32.reduceToInt, n_1, n_2, n_8, Int32.toNatClampNeg, Int64.lt_iff_toInt_lt, Int64.le_iff_toInt_le, ← Int64.toInt_inj, Int64.reduceToInt, Int32.toInt_toInt64, lg_cmp_ge, lg_cmp_le, lg_cmp_gt, lg_cmp_lt, lg_cmp_eq, Bool.false_eq_true, Bool.true_eq_false, reduceCtorEq, false_iff, true_iff, iff_true, iff_false, and_true, true_and, and_false, false_and, reduceIte, ite_true, ite_false, eq_self] at *)) <;> omega)), trivial⟩
              · replace h18 := bI_t (b := l7) (rfl) h18
                refine wa_aload_n (i := 0) rfl rfl ?_
                refine wa_geti ck_9 fl_9_44 ly_60 ?_
                refine wa_rw (khi16_1) ?_
                refine wa_iconst (v := 1) (by decide) ?_
                refine wa_iadd ?_
                refine wa_top (fun v20 hv20 => ?_)
                have tv20 := i_addT hv20
                clear hv20
                refine wa_sipush (v := 479) (by decide) ?_
                refine wa_minI zs (allW_in (kT_7 _ (List.mem_of_getElem? (i := 143) rfl)) rfl) (Nat.le_of_ble_eq_true rfl) ?_
                refine wa_top (fun v21 hv21 => ?_)
                have tv21 := i_minI hv21
                clear hv21
                refine wa_goto o_X9_finishCut_197 (by decide) ?_
                refine wa_puti ck_9 fl_9_44 ly_60 (fun s22 hs22 => ?_)
                have Fs22 : Sm 60 62 σ s22 := by rw [hs22]; exact Sm.si Fs14 _ _ (by decide) (by decide)
                refine wa_iload rfl ?_
                refine wa_zreturn l7 (rfl) rfl rfl ?_
                exact ⟨_, rfl, Fs22, (by rw [(nxk_gi_si hs22 (by decide)).trans (khi16_0)]; first | assumption | (((try simp only [vp_in_iff, Int32.lt_iff_toInt_lt, Int32.le_iff_toInt_le, ← Int32.toInt_inj, Int32.reduceToInt, n_1, n_2, n_8, Int32.toNatClampNeg, Int64.lt_iff_toInt_lt, Int64.le_iff_toInt_le, ← Int64.toInt_inj, Int64.reduceToInt, Int32.toInt_toInt64, lg_cmp_ge, lg_cmp_le, lg_cmp_gt, lg_cmp_lt, lg_cmp_eq, Bool.false_eq_true, Bool.true_eq_false, reduceCtorEq, false_iff, true_iff, iff_true, iff_false, and_true, true_and, and_false, false_and, reduceIte, ite_true, ite_false, eq_self] at *)) <;> omega)), trivial⟩
            · have mh17 := nle_mx h17
              refine wa_aload_n (i := 0) rfl rfl ?_
              refine wa_aload_n (i := 0) rfl rfl ?_
              refine wa_geti ck_9 fl_9_44 ly_60 ?_
              refine wa_rw (khi16_1) ?_
              refine wa_iload rfl ?_
              refine wa_aload_n (i := 0) rfl rfl ?_
              refine wa_aload_n (i := 0) rfl rfl ?_
              refine wa_geti ck_9 fl_9_44 ly_60 ?_
              refine wa_rw (khi16_1) ?_
              refine wa_iload rfl ?_
              refine wa_Vl (d9 := d - 1) [.int _, .int _] [.int l8, .int (gi σ 60 11), .ref 60] (sp_X9_rowNumber G (d := d - 1) (by omega) s14 _ _) (rfl) rfl rfl (zr (by omega)) mk_X9_rowNumber ly_60 ml_9_99 (Nat.le_of_ble_eq_true rfl) (fun x24 s23 hs23 => ?_)
              obtain ⟨zs23, -⟩ := pL hs23
              subst zs23
              refine wa_lload rfl ?_
              refine wa_ldiv (by ((try simp only [vp_in_iff, Int32.lt_iff_toInt_lt, Int32.le_iff_toInt_le, ← Int32.toInt_inj, Int32.reduceToInt, n_1, n_2, n_8, Int32.toNatClampNeg, Int64.lt_iff_toInt_lt, Int64.le_iff_toInt_le, ← Int64.toInt_inj, Int64.reduceToInt, Int32.toInt_toInt64, lg_cmp_ge, lg_cmp_le, lg_cmp_gt, lg_cmp_lt, lg_cmp_eq, Bool.false_eq_true, Bool.true_eq_false, reduceCtorEq, false_iff, true_iff, iff_true, iff_false, and_true, true_and, and_false, false_and, reduceIte, ite_true, ite_false, eq_self] at *)) <;> omega) ?_
              refine wa_topl (fun v25 hv25 => ?_)
              clear hv25
              refine wa_Vv (d9 := d - 1) [.int _, .int _, .long _] [] (sp_X9_setRow G (d := d - 1) (by omega) s14 _ _ _) (rfl) rfl rfl (zr (by omega)) mk_X9_setRow ly_60 ml_9_91 (Nat.le_of_ble_eq_true rfl) (fun s26 hs26 => ?_)
              obtain ⟨fs26, -⟩ := hs26
              have Fs26 := Sm.tr Fs14 (Sm.wd fs26 (lo' := 60) (hi' := 62) (by decide) (by decide))
              refine wa_iload rfl ?_
              refine wa_aload_n (i := 0) rfl rfl ?_
              refine wa_aload_n (i := 0) rfl rfl ?_
              refine wa_geti ck_9 fl_9_44 ly_60 ?_
              refine wa_rw ((Sm.gi fs26 11 (Or.inl (by decide))).trans (khi16_1)) ?_
              refine wa_iload rfl ?_
              refine wa_Vl (d9 := d - 1) [.int _, .int _] [.int (bI l7)] (sp_X9_rowNumber G (d := d - 1) (by omega) s26 _ _) (rfl) rfl rfl (zr (by omega)) mk_X9_rowNumber ly_60 ml_9_99 (Nat.le_of_ble_eq_true rfl) (fun x29 s28 hs28 => ?_)
              obtain ⟨zs28, -⟩ := pL hs28
              subst zs28
              refine wa_absL zs (allW_in (kT_8 _ (List.mem_of_getElem? (i := 50) rfl)) rfl) (Nat.le_of_ble_eq_true rfl) ?_
              refine wa_topl (fun v30 hv30 => ?_)
              have tv30 := i_absL hv30
              clear hv30
              refine wa_ldc2 (v := (200)) (allW_in (kT_8 _ (List.mem_of_getElem? (i := 65) rfl)) rfl) ?_
              refine wa_lcmp ?_
              refine wa_top (fun v31 hv31 => ?_)
              have tv31 := i_cmpT hv31
              clear hv31
              refine wa_if_gt o_X9_finishCut_162 (by decide) (fun h32 => ?_) (fun h32 => ?_)
              · refine wa_iconst (v := 0) (by decide) ?_
                refine wa_iand ?_
                refine wa_rw (bI_and (a := l7) (b := false) rfl rfl) ?_
                refine wa_istoreD (lv' := [(7, .int (bI (l7 && false))), (0, .ref 60), (5, .long v5), (8, .int l8)]) (by decide) rfl ?_
                refine wa_iinc (v := (1)) (lv' := fun y33 => [(8, .int y33), (7, .int (bI (l7 && false))), (0, .ref 60), (5, .long v5)]) (by decide) rfl (by decide) (fun _ => rfl) (fun y33 hy33 => ?_)
                have ty33 := i_addT hy33.symm
                clear hy33
                refine wa_goto o_X9_finishCut_104 (by decide) ?_
                refine wa_pick [2, 3, 1, 0] rfl ?_
                exact ih15 _ (by ((try simp only [vp_in_iff, Int32.lt_iff_toInt_lt, Int32.le_iff_toInt_le, ← Int32.toInt_inj, Int32.reduceToInt, n_1, n_2, n_8, Int32.toNatClampNeg, Int64.lt_iff_toInt_lt, Int64.le_iff_toInt_le, ← Int64.toInt_inj, Int64.reduceToInt, Int32.toInt_toInt64, lg_cmp_ge, lg_cmp_le, lg_cmp_gt, lg_cmp_lt, lg_cmp_eq, Bool.false_eq_true, Bool.true_eq_false, reduceCtorEq, false_iff, true_iff, iff_true, iff_false, and_true, true_and, and_false, false_and, reduceIte, ite_true, ite_false, eq_self] at *)) <;> omega) _ _ _ ⟨Fs26, ((Sm.gi fs26 12 (Or.inl (by decide))).trans (khi16_0)), ((Sm.gi fs26 11 (Or.inl (by decide))).trans (khi16_1)), (by ((try simp only [vp_in_iff, Int32.lt_iff_toInt_lt, Int32.le_iff_toInt_le, ← Int32.toInt_inj, Int32.reduceToInt, n_1, n_2, n_8, Int32.toNatClampNeg, Int64.lt_iff_toInt_lt, Int64.le_iff_toInt_le, ← Int64.toInt_inj, Int64.reduceToInt, Int32.toInt_toInt64, lg_cmp_ge, lg_cmp_le, lg_cmp_gt, lg_cmp_lt, lg_cmp_eq, Bool.false_eq_true, Bool.true_eq_false, reduceCtorEq, false_iff, true_iff, iff_true, iff_false, and_true, true_and, and_false, false_and, reduceIte, ite_true, ite_false, eq_self] at *)) <;> omega), trivial⟩ rfl
              · refine wa_iconst (v := 1) (by decide) ?_
                refine wa_goto o_X9_finishCut_163 (by decide) ?_
                refine wa_iand ?_
                refine wa_rw (bI_and (a := l7) (b := true) rfl rfl) ?_
                refine wa_istoreD (lv' := [(7, .int (bI (l7 && true))), (0, .ref 60), (5, .long v5), (8, .int l8)]) (by decide) rfl ?_
                refine wa_iinc (v := (1)) (lv' := fun y34 => [(8, .int y34), (7, .int (bI (l7 && true))), (0, .ref 60), (5, .long v5)]) (by decide) rfl (by decide) (fun _ => rfl) (fun y34 hy34 => ?_)
                have ty34 := i_addT hy34.symm
                clear hy34
                refine wa_goto o_X9_finishCut_104 (by decide) ?_
                refine wa_pick [2, 3, 1, 0] rfl ?_
                exact ih15 _ (by ((try simp only [vp_in_iff, Int32.lt_iff_toInt_lt, Int32.le_iff_toInt_le, ← Int32.toInt_inj, Int32.reduceToInt, n_1, n_2, n_8, Int32.toNatClampNeg, Int64.lt_iff_toInt_lt, Int64.le_iff_toInt_le, ← Int64.toInt_inj, Int64.reduceToInt, Int32.toInt_toInt64, lg_cmp_ge, lg_cmp_le, lg_cmp_gt, lg_cmp_lt, lg_cmp_eq, Bool.false_eq_true, Bool.true_eq_false, reduceCtorEq, false_iff, true_iff, iff_true, iff_false, and_true, true_and, and_false, false_and, reduceIte, ite_true, ite_false, eq_self] at *)) <;> omega) _ _ _ ⟨Fs26, ((Sm.gi fs26 12 (Or.inl (by decide))).trans (khi16_0)), ((Sm.gi fs26 11 (Or.inl (by decide))).trans (khi16_1)), (by ((try simp only [vp_in_iff, Int32.lt_iff_toInt_lt, Int32.le_iff_toInt_le, ← Int32.toInt_inj, Int32.reduceToInt, n_1, n_2, n_8, Int32.toNatClampNeg, Int64.lt_iff_toInt_lt, Int64.le_iff_toInt_le, ← Int64.toInt_inj, Int64.reduceToInt, Int32.toInt_toInt64, lg_cmp_ge, lg_cmp_le, lg_cmp_gt, lg_cmp_lt, lg_cmp_eq, Bool.false_eq_true, Bool.true_eq_false, reduceCtorEq, false_iff, true_iff, iff_true, iff_false, and_true, true_and, and_false, false_and, reduceIte, ite_true, ite_false, eq_self] at *)) <;> omega), trivial⟩ rfl
        exact hi16 _ _ _ _ ⟨Fs8, ((Sm.gi fs8 12 (Or.inl (by decide))).trans (khi3_0)), ((Sm.gi fs8 11 (Or.inl (by decide))).trans (khi3_1)), (by ((try simp only [vp_in_iff, Int32.lt_iff_toInt_lt, Int32.le_iff_toInt_le, ← Int32.toInt_inj, Int32.reduceToInt, n_1, n_2, n_8, Int32.toNatClampNeg, Int64.lt_iff_toInt_lt, Int64.le_iff_toInt_le, ← Int64.toInt_inj, Int64.reduceToInt, Int32.toInt_toInt64, lg_cmp_ge, lg_cmp_le, lg_cmp_gt, lg_cmp_lt, lg_cmp_eq, Bool.false_eq_true, Bool.true_eq_false, reduceCtorEq, false_iff, true_iff, iff_true, iff_false, and_true, true_and, and_false, false_and, reduceIte, ite_true, ite_false, eq_self] at *)) <;> omega), trivial⟩ rfl
      · have mh4 := nle_mx h4
        refine wa_aload_n (i := 0) rfl rfl ?_
        refine wa_aload_n (i := 0) rfl rfl ?_
        refine wa_geti ck_9 fl_9_44 ly_60 ?_
        refine wa_rw (khi3_1) ?_
        refine wa_iload rfl ?_
        refine wa_aload_n (i := 0) rfl rfl ?_
        refine wa_aload_n (i := 0) rfl rfl ?_
        refine wa_geti ck_9 fl_9_44 ly_60 ?_
        refine wa_rw (khi3_1) ?_
        refine wa_iload rfl ?_
        refine wa_Vl (d9 := d - 1) [.int _, .int _] [.int l7, .int (gi σ 60 11), .ref 60] (sp_X9_rowNumber G (d := d - 1) (by omega) s1 _ _) (rfl) rfl rfl (zr (by omega)) mk_X9_rowNumber ly_60 ml_9_99 (Nat.le_of_ble_eq_true rfl) (fun x36 s35 hs35 => ?_)
        obtain ⟨zs35, -⟩ := pL hs35
        subst zs35
        refine wa_lconst (v := 1) (by decide) ?_
        refine wa_lload_n (i := 1) rfl rfl ?_
        refine wa_maxL zs (allW_in (kT_7 _ (List.mem_of_getElem? (i := 236) rfl)) rfl) (Nat.le_of_ble_eq_true rfl) ?_
        refine wa_topl (fun v37 hv37 => ?_)
        have tv37 := i_maxL hv37
        clear hv37
        refine wa_ldiv (by ((try simp only [vp_in_iff, Int32.lt_iff_toInt_lt, Int32.le_iff_toInt_le, ← Int32.toInt_inj, Int32.reduceToInt, n_1, n_2, n_8, Int32.toNatClampNeg, Int64.lt_iff_toInt_lt, Int64.le_iff_toInt_le, ← Int64.toInt_inj, Int64.reduceToInt, Int32.toInt_toInt64, lg_cmp_ge, lg_cmp_le, lg_cmp_gt, lg_cmp_lt, lg_cmp_eq, Bool.false_eq_true, Bool.true_eq_false, reduceCtorEq, false_iff, true_iff, iff_true, iff_false, and_true, true_and, and_false, false_and, reduceIte, ite_true, ite_false, eq_self] at *)) <;> omega) ?_
        refine wa_topl (fun v38 hv38 => ?_)
        clear hv38
        refine wa_Vv (d9 := d - 1) [.int _, .int _, .long _] [] (sp_X9_setRow G (d := d - 1) (by omega) s1 _ _ _) (rfl) rfl rfl (zr (by omega)) mk_X9_setRow ly_60 ml_9_91 (Nat.le_of_ble_eq_true rfl) (fun s39 hs39 => ?_)
        obtain ⟨fs39, -⟩ := hs39
        have Fs39 := Sm.tr Fs1 (Sm.wd fs39 (lo' := 60) (hi' := 62) (by decide) (by decide))
        refine wa_lload rfl ?_
        refine wa_aload_n (i := 0) rfl rfl ?_
        refine wa_aload_n (i := 0) rfl rfl ?_
        refine wa_geti ck_9 fl_9_44 ly_60 ?_
        refine wa_rw ((Sm.gi fs39 11 (Or.inl (by decide))).trans (khi3_1)) ?_
        refine wa_iload rfl ?_
        refine wa_Vl (d9 := d - 1) [.int _, .int _] [.long l5] (sp_X9_rowNumber G (d := d - 1) (by omega) s39 _ _) (rfl) rfl rfl (zr (by omega)) mk_X9_rowNumber ly_60 ml_9_99 (Nat.le_of_ble_eq_true rfl) (fun x42 s41 hs41 => ?_)
        obtain ⟨zs41, -⟩ := pL hs41
        subst zs41
        refine wa_Sl (d9 := d - 1) [.long _, .long _] [] (sp_X11_commonDivisor G (d := d - 1) (by omega) s39 _ _) (rfl) rfl rfl (zr (by omega)) mk_X11_commonDivisor ml_9_118 (Nat.le_of_ble_eq_true rfl) (fun x44 s43 hs43 => ?_)
        obtain ⟨zs43, -⟩ := pL hs43
        subst zs43
        refine wa_lstoreD (lv' := [(5, .long x44), (0, .ref 60), (1, .long a0), (3, .long a1), (7, .int l7)]) (by decide) rfl ?_
        refine wa_iinc (v := (1)) (lv' := fun y45 => [(7, .int y45), (5, .long x44), (0, .ref 60), (1, .long a0), (3, .long a1)]) (by decide) rfl (by decide) (fun _ => rfl) (fun y45 hy45 => ?_)
        have ty45 := i_addT hy45.symm
        clear hy45
        refine wa_goto o_X9_finishCut_6 (by decide) ?_
        refine wa_pick [2, 3, 4, 1, 0] rfl ?_
        exact ih2 _ (by ((try simp only [vp_in_iff, Int32.lt_iff_toInt_lt, Int32.le_iff_toInt_le, ← Int32.toInt_inj, Int32.reduceToInt, n_1, n_2, n_8, Int32.toNatClampNeg, Int64.lt_iff_toInt_lt, Int64.le_iff_toInt_le, ← Int64.toInt_inj, Int64.reduceToInt, Int32.toInt_toInt64, lg_cmp_ge, lg_cmp_le, lg_cmp_gt, lg_cmp_lt, lg_cmp_eq, Bool.false_eq_true, Bool.true_eq_false, reduceCtorEq, false_iff, true_iff, iff_true, iff_false, and_true, true_and, and_false, false_and, reduceIte, ite_true, ite_false, eq_self] at *)) <;> omega) _ _ _ ⟨Fs39, ((Sm.gi fs39 12 (Or.inl (by decide))).trans (khi3_0)), ((Sm.gi fs39 11 (Or.inl (by decide))).trans (khi3_1)), (by ((try simp only [vp_in_iff, Int32.lt_iff_toInt_lt, Int32.le_iff_toInt_le, ← Int32.toInt_inj, Int32.reduceToInt, n_1, n_2, n_8, Int32.toNatClampNeg, Int64.lt_iff_toInt_lt, Int64.le_iff_toInt_le, ← Int64.toInt_inj, Int64.reduceToInt, Int32.toInt_toInt64, lg_cmp_ge, lg_cmp_le, lg_cmp_gt, lg_cmp_lt, lg_cmp_eq, Bool.false_eq_true, Bool.true_eq_false, reduceCtorEq, false_iff, true_iff, iff_true, iff_false, and_true, true_and, and_false, false_and, reduceIte, ite_true, ite_false, eq_self] at *)) <;> omega), trivial⟩ rfl
  exact hi3 _ _ _ _ ⟨(Sm.rf 60 62 σ), (rfl), (rfl), (by ((try simp only [vp_in_iff, Int32.lt_iff_toInt_lt, Int32.le_iff_toInt_le, ← Int32.toInt_inj, Int32.reduceToInt, n_1, n_2, n_8, Int32.toNatClampNeg, Int64.lt_iff_toInt_lt, Int64.le_iff_toInt_le, ← Int64.toInt_inj, Int64.reduceToInt, Int32.toInt_toInt64, lg_cmp_ge, lg_cmp_le, lg_cmp_gt, lg_cmp_lt, lg_cmp_eq, Bool.false_eq_true, Bool.true_eq_false, reduceCtorEq, false_iff, true_iff, iff_true, iff_false, and_true, true_and, and_false, false_and, reduceIte, ite_true, ite_false, eq_self] at *)) <;> omega), trivial⟩ rfl
set_option maxHeartbeats 4000000 in
theorem sp_X9_addCut (G : kG9) {d : Nat} (hd : 3 ≤ d) (σ : St) (a0 : Int32) (r1 : 0 ≤ (gi σ 60 12).toInt ∧ (gi σ 60 12).toInt ≤ 4) : Ct G M_X9_addCut d [.ref 60, .int a0] σ (fun r σ' => ∃ x : Bool, r = some (.int (bI x)) ∧ Sm 60 66 σ σ' ∧ (0 ≤ (gi σ' 60 12).toInt ∧ (gi σ' 60 12).toInt ≤ 4) ∧ True) := by
  refine wa_start (by decide) rfl (Nat.le_of_ble_eq_true rfl) (lv := [(0, .ref 60), (1, .int a0)]) rfl o_X9_addCut_0 rfl ?_
  have ua0 := Int32.toInt_lt a0
  have wa0 := Int32.le_toInt a0
  refine wa_aload_n (i := 0) rfl rfl ?_
  refine wa_Vv (d9 := d - 1) [] [] (sp_X9_findBasis G (d := d - 1) (by omega) σ  (by first | assumption | exact Or.inl rfl | exact Or.inr rfl | (((try simp only [vp_in_iff, Int32.lt_iff_toInt_lt, Int32.le_iff_toInt_le, ← Int32.toInt_inj, Int32.reduceToInt, n_1, n_2, n_8, Int32.toNatClampNeg, Int64.lt_iff_toInt_lt, Int64.le_iff_toInt_le, ← Int64.toInt_inj, Int64.reduceToInt, Int32.toInt_toInt64, lg_cmp_ge, lg_cmp_le, lg_cmp_gt, lg_cmp_lt, lg_cmp_eq, Bool.false_eq_true, Bool.true_eq_false, reduceCtorEq, false_iff, true_iff, iff_true, iff_false, and_true, true_and, and_false, false_and, reduceIte, ite_true, ite_false, eq_self] at *)) <;> omega))) (rfl) rfl rfl (zr (by omega)) mk_X9_findBasis ly_60 ml_9_188 (Nat.le_of_ble_eq_true rfl) (fun s1 hs1 => ?_)
  obtain ⟨fs1, cx2_1, -⟩ := hs1
  have Fs1 := Sm.tr (Sm.rf 60 66 σ) (Sm.wd fs1 (lo' := 60) (hi' := 66) (by decide) (by decide))
  refine wa_aload_n (i := 0) rfl rfl ?_
  refine wa_aload_n (i := 0) rfl rfl ?_
  refine wa_geti ck_9 fl_9_44 ly_60 ?_
  refine wa_Vv (d9 := d - 1) [.int _] [] (sp_X9_clearRow G (d := d - 1) (by omega) s1 _) (rfl) rfl rfl (zr (by omega)) mk_X9_clearRow ly_60 ml_9_82 (Nat.le_of_ble_eq_true rfl) (fun s3 hs3 => ?_)
  obtain ⟨fs3, -⟩ := hs3
  have Fs3 := Sm.tr Fs1 (Sm.wd fs3 (lo' := 60) (hi' := 66) (by decide) (by decide))
  refine wa_lconst (v := 1) (by decide) ?_
  refine wa_aload_n (i := 0) rfl rfl ?_
  refine wa_getl ck_9 fl_9_37 ly_60 ?_
  refine wa_rwl (Sm.gl fs3 9 (Or.inl (by decide))) ?_
  refine wa_maxL zs (allW_in (kT_7 _ (List.mem_of_getElem? (i := 236) rfl)) rfl) (Nat.le_of_ble_eq_true rfl) ?_
  refine wa_topl (fun v5 hv5 => ?_)
  have tv5 := i_maxL hv5
  clear hv5
  refine wa_lstore_nD (lv' := [(2, .long v5), (0, .ref 60), (1, .int a0)]) (i := 2) rfl (by decide) rfl ?_
  refine wa_lconst (v := 0) (by decide) ?_
  refine wa_lstoreD (lv' := [(4, .long 0), (2, .long v5), (0, .ref 60), (1, .int a0)]) (by decide) rfl ?_
  refine wa_lconst (v := 0) (by decide) ?_
  refine wa_lstoreD (lv' := [(6, .long 0), (4, .long 0), (2, .long v5), (0, .ref 60), (1, .int a0)]) (by decide) rfl ?_
  refine wa_iconst (v := 0) (by decide) ?_
  refine wa_istoreD (lv' := [(8, .int 0), (6, .long 0), (4, .long 0), (2, .long v5), (0, .ref 60), (1, .int a0)]) (by decide) rfl ?_
  refine wa_pick [4, 5, 3, 2, 1, 0] rfl ?_
  have hi8 : ∀ (n9_30 : Nat) (l4 : Int64) (l6 : Int64) (l8 : Int32) (s6 : St), ((Sm 60 66 σ s6) ∧ (gi s6 60 12 = gi s1 60 12) ∧ (gi s6 60 11 = gi s1 60 11) ∧ (gl s6 60 9 = gl s1 60 9) ∧ (0 ≤ l8.toInt) ∧ (True)) → (2147483647 - l8.toInt).toNat = n9_30 → WA G M_X9_addCut (ZM G M_X9_addCut d (fun r σ' => ∃ x : Bool, r = some (.int (bI x)) ∧ Sm 60 66 σ σ' ∧ (0 ≤ (gi σ' 60 12).toInt ∧ (gi σ' 60 12).toInt ≤ 4) ∧ True)) B_X9_addCut_30 [(0, .ref 60), (1, .int a0), (2, .long v5), (4, .long l4), (6, .long l6), (8, .int l8)] [] s6 := by
    intro n9_30
    induction n9_30 using Nat.strongRecOn with
    | _ n9_30 ih7 =>
      intro l4 l6 l8 s6 i9 m9_30
      obtain ⟨Fs6, khi8_0, khi8_1, khi8_2, jhi8_0, -⟩ := i9
      have ul8 := Int32.toInt_lt l8
      have wl8 := Int32.le_toInt l8
      refine wa_iload rfl ?_
      refine wa_aload_n (i := 0) rfl rfl ?_
      refine wa_geti ck_9 fl_9_62 ly_60 ?_
      refine wa_rw (khi8_0) ?_
      refine wa_icmp_ge o_X9_addCut_165 (by decide) (fun h9 => ?_) (fun h9 => ?_)
      · refine wa_aload_n (i := 0) rfl rfl ?_
        refine wa_lload_n (i := 2) rfl rfl ?_
        refine wa_lload rfl ?_
        refine wa_lload rfl ?_
        refine wa_lload_n (i := 2) rfl rfl ?_
        refine wa_Sl (d9 := d - 1) [.long _, .long _] [.long l4, .long v5, .ref 60] (sp_J9_floorDiv_f86c9 G (d := d - 1) (by omega) s6 _ _ (by ((try simp only [vp_in_iff, Int32.lt_iff_toInt_lt, Int32.le_iff_toInt_le, ← Int32.toInt_inj, Int32.reduceToInt, n_1, n_2, n_8, Int32.toNatClampNeg, Int64.lt_iff_toInt_lt, Int64.le_iff_toInt_le, ← Int64.toInt_inj, Int64.reduceToInt, Int32.toInt_toInt64, lg_cmp_ge, lg_cmp_le, lg_cmp_gt, lg_cmp_lt, lg_cmp_eq, Bool.false_eq_true, Bool.true_eq_false, reduceCtorEq, false_iff, true_iff, iff_true, iff_false, and_true, true_and, and_false, false_and, reduceIte, ite_true, ite_false, eq_self] at *)) <;> omega)) (rfl) rfl rfl (zr (by omega)) mk_J9_floorDiv_f86c9 ml_9_176 (Nat.le_of_ble_eq_true rfl) (fun x11 s10 hs10 => ?_)
        obtain ⟨zs10, -⟩ := pL hs10
        subst zs10
        refine wa_ladd ?_
        refine wa_topl (fun v12 hv12 => ?_)
        clear hv12
        refine wa_Vi (d9 := d - 1) [.long _, .long _] [] (sp_X9_finishCut G (d := d - 1) (by omega) s6 _ _ (by rw [khi8_0]; first | assumption | exact Or.inl rfl | exact Or.inr rfl | (((try simp only [vp_in_iff, Int32.lt_iff_toInt_lt, Int32.le_iff_toInt_le, ← Int32.toInt_inj, Int32.reduceToInt, n_1, n_2, n_8, Int32.toNatClampNeg, Int64.lt_iff_toInt_lt, Int64.le_iff_toInt_le, ← Int64.toInt_inj, Int64.reduceToInt, Int32.toInt_toInt64, lg_cmp_ge, lg_cmp_le, lg_cmp_gt, lg_cmp_lt, lg_cmp_eq, Bool.false_eq_true, Bool.true_eq_false, reduceCtorEq, false_iff, true_iff, iff_true, iff_false, and_true, true_and, and_false, false_and, reduceIte, ite_true, ite_false, eq_self] at *)) <;> omega))) (rfl) rfl rfl (zr (by omega)) mk_X9_finishCut ly_60 ml_9_191 (Nat.le_of_ble_eq_true rfl) (fun x14 s13 hs13 => ?_)
        obtain ⟨bx14, ex14, fs13, cx14_1, -⟩ := pB hs13
        subst ex14
        have Fs13 := Sm.tr Fs6 (Sm.wd fs13 (lo' := 60) (hi' := 66) (by decide) (by decide))
        refine wa_zreturn bx14 (rfl) rfl rfl ?_
        exact ⟨_, rfl, Fs13, (by first | assumption | (((try simp only [vp_in_iff, Int32.lt_iff_toInt_lt, Int32.le_iff_toInt_le, ← Int32.toInt_inj, Int32.reduceToInt, n_1, n_2, n_8, Int32.toNatClampNeg, Int64.lt_iff_toInt_lt, Int64.le_iff_toInt_le, ← Int64.toInt_inj, Int64.reduceToInt, Int32.toInt_toInt64, lg_cmp_ge, lg_cmp_le, lg_cmp_gt, lg_cmp_lt, lg_cmp_eq, Bool.false_eq_true, Bool.true_eq_false, reduceCtorEq, false_iff, true_iff, iff_true, iff_false, and_true, true_and, and_false, false_and, reduceIte, ite_true, ite_false, eq_self] at *)) <;> omega)), trivial⟩
      · have mh9 := nle_mx h9
        refine wa_iload_n (i := 1) rfl rfl ?_
        refine wa_if_lt o_X9_addCut_165 (by decide) (fun h15 => ?_) (fun h15 => ?_)
        · refine wa_aload_n (i := 0) rfl rfl ?_
          refine wa_lload_n (i := 2) rfl rfl ?_
          refine wa_lload rfl ?_
          refine wa_lload rfl ?_
          refine wa_lload_n (i := 2) rfl rfl ?_
          refine wa_Sl (d9 := d - 1) [.long _, .long _] [.long l4, .long v5, .ref 60] (sp_J9_floorDiv_f86c9 G (d := d - 1) (by omega) s6 _ _ (by ((try simp only [vp_in_iff, Int32.lt_iff_toInt_lt, Int32.le_iff_toInt_le, ← Int32.toInt_inj, Int32.reduceToInt, n_1, n_2, n_8, Int32.toNatClampNeg, Int64.lt_iff_toInt_lt, Int64.le_iff_toInt_le, ← Int64.toInt_inj, Int64.reduceToInt, Int32.toInt_toInt64, lg_cmp_ge, lg_cmp_le, lg_cmp_gt, lg_cmp_lt, lg_cmp_eq, Bool.false_eq_true, Bool.true_eq_false, reduceCtorEq, false_iff, true_iff, iff_true, iff_false, and_true, true_and, and_false, false_and, reduceIte, ite_true, ite_false, eq_self] at *)) <;> omega)) (rfl) rfl rfl (zr (by omega)) mk_J9_floorDiv_f86c9 ml_9_176 (Nat.le_of_ble_eq_true rfl) (fun x17 s16 hs16 => ?_)
          obtain ⟨zs16, -⟩ := pL hs16
          subst zs16
          refine wa_ladd ?_
          refine wa_topl (fun v18 hv18 => ?_)
          clear hv18
          refine wa_Vi (d9 := d - 1) [.long _, .long _] [] (sp_X9_finishCut G (d := d - 1) (by omega) s6 _ _ (by rw [khi8_0]; first | assumption | exact Or.inl rfl | exact Or.inr rfl | (((try simp only [vp_in_iff, Int32.lt_iff_toInt_lt, Int32.le_iff_toInt_le, ← Int32.toInt_inj, Int32.reduceToInt, n_1, n_2, n_8, Int32.toNatClampNeg, Int64.lt_iff_toInt_lt, Int64.le_iff_toInt_le, ← Int64.toInt_inj, Int64.reduceToInt, Int32.toInt_toInt64, lg_cmp_ge, lg_cmp_le, lg_cmp_gt, lg_cmp_lt, lg_cmp_eq, Bool.false_eq_true, Bool.true_eq_false, reduceCtorEq, false_iff, true_iff, iff_true, iff_false, and_true, true_and, and_false, false_and, reduceIte, ite_true, ite_false, eq_self] at *)) <;> omega))) (rfl) rfl rfl (zr (by omega)) mk_X9_finishCut ly_60 ml_9_191 (Nat.le_of_ble_eq_true rfl) (fun x20 s19 hs19 => ?_)
          obtain ⟨bx20, ex20, fs19, cx20_1, -⟩ := pB hs19
          subst ex20
          have Fs19 := Sm.tr Fs6 (Sm.wd fs19 (lo' := 60) (hi' := 66) (by decide) (by decide))
          refine wa_zreturn bx20 (rfl) rfl rfl ?_
          exact ⟨_, rfl, Fs19, (by first | assumption | (((try simp only [vp_in_iff, Int32.lt_iff_toInt_lt, Int32.le_iff_toInt_le, ← Int32.toInt_inj, Int32.reduceToInt, n_1, n_2, n_8, Int32.toNatClampNeg, Int64.lt_iff_toInt_lt, Int64.le_iff_toInt_le, ← Int64.toInt_inj, Int64.reduceToInt, Int32.toInt_toInt64, lg_cmp_ge, lg_cmp_le, lg_cmp_gt, lg_cmp_lt, lg_cmp_eq, Bool.false_eq_true, Bool.true_eq_false, reduceCtorEq, false_iff, true_iff, iff_true, iff_false, and_true, true_and, and_false, false_and, reduceIte, ite_true, ite_false, eq_self] at *)) <;> omega)), trivial⟩
        · refine wa_iload_n (i := 1) rfl rfl ?_
          refine wa_iconst (v := 4) (by decide) ?_
          refine wa_icmp_ge o_X9_addCut_165 (by decide) (fun h21 => ?_) (fun h21 => ?_)
          · refine wa_aload_n (i := 0) rfl rfl ?_
            refine wa_lload_n (i := 2) rfl rfl ?_
            refine wa_lload rfl ?_
            refine wa_lload rfl ?_
            refine wa_lload_n (i := 2) rfl rfl ?_
            refine wa_Sl (d9 := d - 1) [.long _, .long _] [.long l4, .long v5, .ref 60] (sp_J9_floorDiv_f86c9 G (d := d - 1) (by omega) s6 _ _ (by ((try simp only [vp_in_iff, Int32.lt_iff_toInt_lt, Int32.le_iff_toInt_le, ← Int32.toInt_inj, Int32.reduceToInt, n_1, n_2, n_8, Int32.toNatClampNeg, Int64.lt_iff_toInt_lt, Int64.le_iff_toInt_le, ← Int64.toInt_inj, Int64.reduceToInt, Int32.toInt_toInt64, lg_cmp_ge, lg_cmp_le, lg_cmp_gt, lg_cmp_lt, lg_cmp_eq, Bool.false_eq_true, Bool.true_eq_false, reduceCtorEq, false_iff, true_iff, iff_true, iff_false, and_true, true_and, and_false, false_and, reduceIte, ite_true, ite_false, eq_self] at *)) <;> omega)) (rfl) rfl rfl (zr (by omega)) mk_J9_floorDiv_f86c9 ml_9_176 (Nat.le_of_ble_eq_true rfl) (fun x23 s22 hs22 => ?_)
            obtain ⟨zs22, -⟩ := pL hs22
            subst zs22
            refine wa_ladd ?_
            refine wa_topl (fun v24 hv24 => ?_)
            clear hv24
            refine wa_Vi (d9 := d - 1) [.long _, .long _] [] (sp_X9_finishCut G (d := d - 1) (by omega) s6 _ _ (by rw [khi8_0]; first | assumption | exact Or.inl rfl | exact Or.inr rfl | (((try simp only [vp_in_iff, Int32.lt_iff_toInt_lt, Int32.le_iff_toInt_le, ← Int32.toInt_inj, Int32.reduceToInt, n_1, n_2, n_8, Int32.toNatClampNeg, Int64.lt_iff_toInt_lt, Int64.le_iff_toInt_le, ← Int64.toInt_inj, Int64.reduceToInt, Int32.toInt_toInt64, lg_cmp_ge, lg_cmp_le, lg_cmp_gt, lg_cmp_lt, lg_cmp_eq, Bool.false_eq_true, Bool.true_eq_false, reduceCtorEq, false_iff, true_iff, iff_true, iff_false, and_true, true_and, and_false, false_and, reduceIte, ite_true, ite_false, eq_self] at *)) <;> omega))) (rfl) rfl rfl (zr (by omega)) mk_X9_finishCut ly_60 ml_9_191 (Nat.le_of_ble_eq_true rfl) (fun x26 s25 hs25 => ?_)
            obtain ⟨bx26, ex26, fs25, cx26_1, -⟩ := pB hs25
            subst ex26
            have Fs25 := Sm.tr Fs6 (Sm.wd fs25 (lo' := 60) (hi' := 66) (by decide) (by decide))
            refine wa_zreturn bx26 (rfl) rfl rfl ?_
            exact ⟨_, rfl, Fs25, (by first | assumption | (((try simp only [vp_in_iff, Int32.lt_iff_toInt_lt, Int32.le_iff_toInt_le, ← Int32.toInt_inj, Int32.reduceToInt, n_1, n_2, n_8, Int32.toNatClampNeg, Int64.lt_iff_toInt_lt, Int64.le_iff_toInt_le, ← Int64.toInt_inj, Int64.reduceToInt, Int32.toInt_toInt64, lg_cmp_ge, lg_cmp_le, lg_cmp_gt, lg_cmp_lt, lg_cmp_eq, Bool.false_eq_true, Bool.true_eq_false, reduceCtorEq, false_iff, true_iff, iff_true, iff_false, and_true, true_and, and_false, false_and, reduceIte, ite_true, ite_false, eq_self] at *)) <;> omega)), trivial⟩
          · have mh21 := nle_mx h21
            refine wa_aload_n (i := 0) rfl rfl ?_
            refine wa_getr ck_9 fl_9_22 ly_60 rf_60_3 ?_
            refine wa_iload rfl ?_
            refine wa_iconst (v := 4) (by decide) ?_
            refine wa_imul ?_
            refine wa_top (fun v27 hv27 => ?_)
            have tv27 := i_mulT hv27
            clear hv27
            refine wa_iload_n (i := 1) rfl rfl ?_
            refine wa_iadd ?_
            refine wa_top (fun v28 hv28 => ?_)
            have tv28 := i_addT hv28
            clear hv28
            refine wa_lald ly_64 (by ((try simp only [vp_in_iff, Int32.lt_iff_toInt_lt, Int32.le_iff_toInt_le, ← Int32.toInt_inj, Int32.reduceToInt, n_1, n_2, n_8, Int32.toNatClampNeg, Int64.lt_iff_toInt_lt, Int64.le_iff_toInt_le, ← Int64.toInt_inj, Int64.reduceToInt, Int32.toInt_toInt64, lg_cmp_ge, lg_cmp_le, lg_cmp_gt, lg_cmp_lt, lg_cmp_eq, Bool.false_eq_true, Bool.true_eq_false, reduceCtorEq, false_iff, true_iff, iff_true, iff_false, and_true, true_and, and_false, false_and, reduceIte, ite_true, ite_false, eq_self] at *)) <;> omega) ?_
            refine wa_lload_n (i := 2) rfl rfl ?_
            refine wa_Sl (d9 := d - 1) [.long _, .long _] [] (sp_J9_floorMod_f86c9 G (d := d - 1) (by omega) s6 _ _ (by ((try simp only [vp_in_iff, Int32.lt_iff_toInt_lt, Int32.le_iff_toInt_le, ← Int32.toInt_inj, Int32.reduceToInt, n_1, n_2, n_8, Int32.toNatClampNeg, Int64.lt_iff_toInt_lt, Int64.le_iff_toInt_le, ← Int64.toInt_inj, Int64.reduceToInt, Int32.toInt_toInt64, lg_cmp_ge, lg_cmp_le, lg_cmp_gt, lg_cmp_lt, lg_cmp_eq, Bool.false_eq_true, Bool.true_eq_false, reduceCtorEq, false_iff, true_iff, iff_true, iff_false, and_true, true_and, and_false, false_and, reduceIte, ite_true, ite_false, eq_self] at *)) <;> omega)) (rfl) rfl rfl (zr (by omega)) mk_J9_floorMod_f86c9 ml_9_179 (Nat.le_of_ble_eq_true rfl) (fun x30 s29 hs29 => ?_)
            obtain ⟨zs29, -⟩ := pL hs29
            subst zs29
            refine wa_lstoreD (lv' := [(9, .long x30), (0, .ref 60), (1, .int a0), (2, .long v5), (4, .long l4), (6, .long l6), (8, .int l8)]) (by decide) rfl ?_
            refine wa_iconst (v := 0) (by decide) ?_
            refine wa_istoreD (lv' := [(11, .int 0), (9, .long x30), (0, .ref 60), (1, .int a0), (2, .long v5), (4, .long l4), (6, .long l6), (8, .int l8)]) (by decide) rfl ?_
            refine wa_pick [2, 3, 4, 5, 6, 7, 1, 0] rfl ?_
            have hi33 : ∀ (n9_68 : Nat) (l11 : Int32) (s31 : St), ((Sm 60 66 σ s31) ∧ (gi s31 60 12 = gi s1 60 12) ∧ (gi s31 60 11 = gi s1 60 11) ∧ (gl s31 60 9 = gl s1 60 9) ∧ (0 ≤ l11.toInt) ∧ (True)) → (2147483647 - l11.toInt).toNat = n9_68 → WA G M_X9_addCut (ZM G M_X9_addCut d (fun r σ' => ∃ x : Bool, r = some (.int (bI x)) ∧ Sm 60 66 σ σ' ∧ (0 ≤ (gi σ' 60 12).toInt ∧ (gi σ' 60 12).toInt ≤ 4) ∧ True)) B_X9_addCut_68 [(0, .ref 60), (1, .int a0), (2, .long v5), (4, .long l4), (6, .long l6), (8, .int l8), (9, .long x30), (11, .int l11)] [] s31 := by
              intro n9_68
              induction n9_68 using Nat.strongRecOn with
              | _ n9_68 ih32 =>
                intro l11 s31 i9 m9_68
                obtain ⟨Fs31, khi33_0, khi33_1, khi33_2, jhi33_0, -⟩ := i9
                have ul11 := Int32.toInt_lt l11
                have wl11 := Int32.le_toInt l11
                refine wa_iload rfl ?_
                refine wa_aload_n (i := 0) rfl rfl ?_
                refine wa_geti ck_9 fl_9_62 ly_60 ?_
                refine wa_rw (khi33_0) ?_
                refine wa_icmp_ge o_X9_addCut_120 (by decide) (fun h34 => ?_) (fun h34 => ?_)
                · refine wa_lload rfl ?_
                  refine wa_aload_n (i := 0) rfl rfl ?_
                  refine wa_aload_n (i := 0) rfl rfl ?_
                  refine wa_getr ck_9 fl_9_18 ly_60 rf_60_2 ?_
                  refine wa_iload rfl ?_
                  refine wa_iald ly_63 (by ((try simp only [vp_in_iff, Int32.lt_iff_toInt_lt, Int32.le_iff_toInt_le, ← Int32.toInt_inj, Int32.reduceToInt, n_1, n_2, n_8, Int32.toNatClampNeg, Int64.lt_iff_toInt_lt, Int64.le_iff_toInt_le, ← Int64.toInt_inj, Int64.reduceToInt, Int32.toInt_toInt64, lg_cmp_ge, lg_cmp_le, lg_cmp_gt, lg_cmp_lt, lg_cmp_eq, Bool.false_eq_true, Bool.true_eq_false, reduceCtorEq, false_iff, true_iff, iff_true, iff_false, and_true, true_and, and_false, false_and, reduceIte, ite_true, ite_false, eq_self] at *)) <;> omega) ?_
                  refine wa_iconst (v := 4) (by decide) ?_
                  refine wa_Vl (d9 := d - 1) [.int _, .int _] [.long x30] (sp_X9_rowNumber G (d := d - 1) (by omega) s31 _ _) (rfl) rfl rfl (zr (by omega)) mk_X9_rowNumber ly_60 ml_9_99 (Nat.le_of_ble_eq_true rfl) (fun x36 s35 hs35 => ?_)
                  obtain ⟨zs35, -⟩ := pL hs35
                  subst zs35
                  refine wa_lmul ?_
                  refine wa_topl (fun v37 hv37 => ?_)
                  clear hv37
                  refine wa_lstoreD (lv' := [(11, .long v37), (0, .ref 60), (1, .int a0), (2, .long v5), (4, .long l4), (6, .long l6), (8, .int l8), (9, .long x30)]) (by decide) rfl ?_
                  refine wa_lload rfl ?_
                  refine wa_lload rfl ?_
                  refine wa_lload_n (i := 2) rfl rfl ?_
                  refine wa_Sl (d9 := d - 1) [.long _, .long _] [.long l4] (sp_J9_floorDiv_f86c9 G (d := d - 1) (by omega) s31 _ _ (by ((try simp only [vp_in_iff, Int32.lt_iff_toInt_lt, Int32.le_iff_toInt_le, ← Int32.toInt_inj, Int32.reduceToInt, n_1, n_2, n_8, Int32.toNatClampNeg, Int64.lt_iff_toInt_lt, Int64.le_iff_toInt_le, ← Int64.toInt_inj, Int64.reduceToInt, Int32.toInt_toInt64, lg_cmp_ge, lg_cmp_le, lg_cmp_gt, lg_cmp_lt, lg_cmp_eq, Bool.false_eq_true, Bool.true_eq_false, reduceCtorEq, false_iff, true_iff, iff_true, iff_false, and_true, true_and, and_false, false_and, reduceIte, ite_true, ite_false, eq_self] at *)) <;> omega)) (rfl) rfl rfl (zr (by omega)) mk_J9_floorDiv_f86c9 ml_9_176 (Nat.le_of_ble_eq_true rfl) (fun x39 s38 hs38 => ?_)
                  obtain ⟨zs38, -⟩ := pL hs38
                  subst zs38
                  refine wa_ladd ?_
                  refine wa_topl (fun v40 hv40 => ?_)
                  clear hv40
                  refine wa_lstoreD (lv' := [(4, .long v40), (11, .long v37), (0, .ref 60), (1, .int a0), (2, .long v5), (6, .long l6), (8, .int l8), (9, .long x30)]) (by decide) rfl ?_
                  refine wa_lload rfl ?_
                  refine wa_lload rfl ?_
                  refine wa_lload_n (i := 2) rfl rfl ?_
                  refine wa_Sl (d9 := d - 1) [.long _, .long _] [.long l6] (sp_J9_floorMod_f86c9 G (d := d - 1) (by omega) s31 _ _ (by ((try simp only [vp_in_iff, Int32.lt_iff_toInt_lt, Int32.le_iff_toInt_le, ← Int32.toInt_inj, Int32.reduceToInt, n_1, n_2, n_8, Int32.toNatClampNeg, Int64.lt_iff_toInt_lt, Int64.le_iff_toInt_le, ← Int64.toInt_inj, Int64.reduceToInt, Int32.toInt_toInt64, lg_cmp_ge, lg_cmp_le, lg_cmp_gt, lg_cmp_lt, lg_cmp_eq, Bool.false_eq_true, Bool.true_eq_false, reduceCtorEq, false_iff, true_iff, iff_true, iff_false, and_true, true_and, and_false, false_and, reduceIte, ite_true, ite_false, eq_self] at *)) <;> omega)) (rfl) rfl rfl (zr (by omega)) mk_J9_floorMod_f86c9 ml_9_179 (Nat.le_of_ble_eq_true rfl) (fun x42 s41 hs41 => ?_)
                  obtain ⟨zs41, -⟩ := pL hs41
                  subst zs41
                  refine wa_ladd ?_
                  refine wa_topl (fun v43 hv43 => ?_)
                  clear hv43
                  refine wa_lstoreD (lv' := [(6, .long v43), (4, .long v40), (11, .long v37), (0, .ref 60), (1, .int a0), (2, .long v5), (8, .int l8), (9, .long x30)]) (by decide) rfl ?_
                  refine wa_iinc (v := (1)) (lv' := fun y44 => [(8, .int y44), (6, .long v43), (4, .long v40), (11, .long v37), (0, .ref 60), (1, .int a0), (2, .long v5), (9, .long x30)]) (by decide) rfl (by decide) (fun _ => rfl) (fun y44 hy44 => ?_)
                  have ty44 := i_addT hy44.symm
                  clear hy44
                  refine wa_goto o_X9_addCut_30 (by decide) ?_
                  refine wa_pick [4, 5, 6, 2, 1, 0] rfl ?_
                  exact ih7 _ (by ((try simp only [vp_in_iff, Int32.lt_iff_toInt_lt, Int32.le_iff_toInt_le, ← Int32.toInt_inj, Int32.reduceToInt, n_1, n_2, n_8, Int32.toNatClampNeg, Int64.lt_iff_toInt_lt, Int64.le_iff_toInt_le, ← Int64.toInt_inj, Int64.reduceToInt, Int32.toInt_toInt64, lg_cmp_ge, lg_cmp_le, lg_cmp_gt, lg_cmp_lt, lg_cmp_eq, Bool.false_eq_true, Bool.true_eq_false, reduceCtorEq, false_iff, true_iff, iff_true, iff_false, and_true, true_and, and_false, false_and, reduceIte, ite_true, ite_false, eq_self] at *)) <;> omega) _ _ _ _ ⟨Fs31, (khi33_0), (khi33_1), (khi33_2), (by ((try simp only [vp_in_iff, Int32.lt_iff_toInt_lt, Int32.le_iff_toInt_le, ← Int32.toInt_inj, Int32.reduceToInt, n_1, n_2, n_8, Int32.toNatClampNeg, Int64.lt_iff_toInt_lt, Int64.le_iff_toInt_le, ← Int64.toInt_inj, Int64.reduceToInt, Int32.toInt_toInt64, lg_cmp_ge, lg_cmp_le, lg_cmp_gt, lg_cmp_lt, lg_cmp_eq, Bool.false_eq_true, Bool.true_eq_false, reduceCtorEq, false_iff, true_iff, iff_true, iff_false, and_true, true_and, and_false, false_and, reduceIte, ite_true, ite_false, eq_self] at *)) <;> omega), trivial⟩ rfl
                · have mh34 := nle_mx h34
                  refine wa_aload_n (i := 0) rfl rfl ?_
                  refine wa_aload_n (i := 0) rfl rfl ?_
                  refine wa_geti ck_9 fl_9_44 ly_60 ?_
                  refine wa_rw (khi33_1) ?_
                  refine wa_iload rfl ?_
                  refine wa_aload_n (i := 0) rfl rfl ?_
                  refine wa_aload_n (i := 0) rfl rfl ?_
                  refine wa_geti ck_9 fl_9_44 ly_60 ?_
                  refine wa_rw (khi33_1) ?_
                  refine wa_iload rfl ?_
                  refine wa_Vl (d9 := d - 1) [.int _, .int _] [.int l11, .int (gi s1 60 11), .ref 60] (sp_X9_rowNumber G (d := d - 1) (by omega) s31 _ _) (rfl) rfl rfl (zr (by omega)) mk_X9_rowNumber ly_60 ml_9_99 (Nat.le_of_ble_eq_true rfl) (fun x46 s45 hs45 => ?_)
                  obtain ⟨zs45, -⟩ := pL hs45
                  subst zs45
                  refine wa_lload rfl ?_
                  refine wa_aload_n (i := 0) rfl rfl ?_
                  refine wa_aload_n (i := 0) rfl rfl ?_
                  refine wa_getr ck_9 fl_9_18 ly_60 rf_60_2 ?_
                  refine wa_iload rfl ?_
                  refine wa_iald ly_63 (by ((try simp only [vp_in_iff, Int32.lt_iff_toInt_lt, Int32.le_iff_toInt_le, ← Int32.toInt_inj, Int32.reduceToInt, n_1, n_2, n_8, Int32.toNatClampNeg, Int64.lt_iff_toInt_lt, Int64.le_iff_toInt_le, ← Int64.toInt_inj, Int64.reduceToInt, Int32.toInt_toInt64, lg_cmp_ge, lg_cmp_le, lg_cmp_gt, lg_cmp_lt, lg_cmp_eq, Bool.false_eq_true, Bool.true_eq_false, reduceCtorEq, false_iff, true_iff, iff_true, iff_false, and_true, true_and, and_false, false_and, reduceIte, ite_true, ite_false, eq_self] at *)) <;> omega) ?_
                  refine wa_iload rfl ?_
                  refine wa_Vl (d9 := d - 1) [.int _, .int _] [.long x30, .long x46, .int l11, .int (gi s1 60 11), .ref 60] (sp_X9_rowNumber G (d := d - 1) (by omega) s31 _ _) (rfl) rfl rfl (zr (by omega)) mk_X9_rowNumber ly_60 ml_9_99 (Nat.le_of_ble_eq_true rfl) (fun x48 s47 hs47 => ?_)
                  obtain ⟨zs47, -⟩ := pL hs47
                  subst zs47
                  refine wa_lmul ?_
                  refine wa_topl (fun v49 hv49 => ?_)
                  clear hv49
                  refine wa_ladd ?_
                  refine wa_topl (fun v50 hv50 => ?_)
                  clear hv50
                  refine wa_Vv (d9 := d - 1) [.int _, .int _, .long _] [] (sp_X9_setRow G (d := d - 1) (by omega) s31 _ _ _) (rfl) rfl rfl (zr (by omega)) mk_X9_setRow ly_60 ml_9_91 (Nat.le_of_ble_eq_true rfl) (fun s51 hs51 => ?_)
                  obtain ⟨fs51, -⟩ := hs51
                  have Fs51 := Sm.tr Fs31 (Sm.wd fs51 (lo' := 60) (hi' := 66) (by decide) (by decide))
                  refine wa_iinc (v := (1)) (lv' := fun y53 => [(11, .int y53), (0, .ref 60), (1, .int a0), (2, .long v5), (4, .long l4), (6, .long l6), (8, .int l8), (9, .long x30)]) (by decide) rfl (by decide) (fun _ => rfl) (fun y53 hy53 => ?_)
                  have ty53 := i_addT hy53.symm
                  clear hy53
                  refine wa_goto o_X9_addCut_68 (by decide) ?_
                  refine wa_pick [1, 2, 3, 4, 5, 6, 7, 0] rfl ?_
                  exact ih32 _ (by ((try simp only [vp_in_iff, Int32.lt_iff_toInt_lt, Int32.le_iff_toInt_le, ← Int32.toInt_inj, Int32.reduceToInt, n_1, n_2, n_8, Int32.toNatClampNeg, Int64.lt_iff_toInt_lt, Int64.le_iff_toInt_le, ← Int64.toInt_inj, Int64.reduceToInt, Int32.toInt_toInt64, lg_cmp_ge, lg_cmp_le, lg_cmp_gt, lg_cmp_lt, lg_cmp_eq, Bool.false_eq_true, Bool.true_eq_false, reduceCtorEq, false_iff, true_iff, iff_true, iff_false, and_true, true_and, and_false, false_and, reduceIte, ite_true, ite_false, eq_self] at *)) <;> omega) _ _ ⟨Fs51, ((Sm.gi fs51 12 (Or.inl (by decide))).trans (khi33_0)), ((Sm.gi fs51 11 (Or.inl (by decide))).trans (khi33_1)), ((Sm.gl fs51 9 (Or.inl (by decide))).trans (khi33_2)), (by ((try simp only [vp_in_iff, Int32.lt_iff_toInt_lt, Int32.le_iff_toInt_le, ← Int32.toInt_inj, Int32.reduceToInt, n_1, n_2, n_8, Int32.toNatClampNeg, Int64.lt_iff_toInt_lt, Int64.le_iff_toInt_le, ← Int64.toInt_inj, Int64.reduceToInt, Int32.toInt_toInt64, lg_cmp_ge, lg_cmp_le, lg_cmp_gt, lg_cmp_lt, lg_cmp_eq, Bool.false_eq_true, Bool.true_eq_false, reduceCtorEq, false_iff, true_iff, iff_true, iff_false, and_true, true_and, and_false, false_and, reduceIte, ite_true, ite_false, eq_self] at *)) <;> omega), trivial⟩ rfl
            exact hi33 _ _ _ ⟨Fs6, (khi8_0), (khi8_1), (khi8_2), (by ((try simp only [vp_in_iff, Int32.lt_iff_toInt_lt, Int32.le_iff_toInt_le, ← Int32.toInt_inj, Int32.reduceToInt, n_1, n_2, n_8, Int32.toNatClampNeg, Int64.lt_iff_toInt_lt, Int64.le_iff_toInt_le, ← Int64.toInt_inj, Int64.reduceToInt, Int32.toInt_toInt64, lg_cmp_ge, lg_cmp_le, lg_cmp_gt, lg_cmp_lt, lg_cmp_eq, Bool.false_eq_true, Bool.true_eq_false, reduceCtorEq, false_iff, true_iff, iff_true, iff_false, and_true, true_and, and_false, false_and, reduceIte, ite_true, ite_false, eq_self] at *)) <;> omega), trivial⟩ rfl
  exact hi8 _ _ _ _ _ ⟨Fs3, (Sm.gi fs3 12 (Or.inl (by decide))), (Sm.gi fs3 11 (Or.inl (by decide))), (Sm.gl fs3 9 (Or.inl (by decide))), (by ((try simp only [vp_in_iff, Int32.lt_iff_toInt_lt, Int32.le_iff_toInt_le, ← Int32.toInt_inj, Int32.reduceToInt, n_1, n_2, n_8, Int32.toNatClampNeg, Int64.lt_iff_toInt_lt, Int64.le_iff_toInt_le, ← Int64.toInt_inj, Int64.reduceToInt, Int32.toInt_toInt64, lg_cmp_ge, lg_cmp_le, lg_cmp_gt, lg_cmp_lt, lg_cmp_eq, Bool.false_eq_true, Bool.true_eq_false, reduceCtorEq, false_iff, true_iff, iff_true, iff_false, and_true, true_and, and_false, false_and, reduceIte, ite_true, ite_false, eq_self] at *)) <;> omega), trivial⟩ rfl
set_option maxHeartbeats 4000000 in
theorem sp_X10_isTold (G : kG9) {d : Nat} (hd : 0 ≤ d) (σ : St) (a0 : Int32) : Ct G M_X10_isTold d [.ref 69, .int a0] σ (fun r σ' => ∃ x : Bool, r = some (.int (bI x)) ∧ σ = σ' ∧ True) := by
  refine wa_start (by decide) rfl (Nat.le_of_ble_eq_true rfl) (lv := [(0, .ref 69), (1, .int a0)]) rfl o_X10_isTold_0 rfl ?_
  have ua0 := Int32.toInt_lt a0
  have wa0 := Int32.le_toInt a0
  refine wa_aload_n (i := 0) rfl rfl ?_
  refine wa_getz ck_10 fl_10_32 ly_69 ?_
  refine wa_if_eq o_X10_isTold_21 (by decide) (fun h1 => ?_) (fun h1 => ?_)
  · replace h1 := bI_f (b := (gb σ 69 11)) (rfl) h1
    refine wa_iconst (v := 0) (by decide) ?_
    refine wa_zreturn false (rfl) rfl rfl ?_
    exact ⟨_, rfl, rfl, trivial⟩
  · replace h1 := bI_t (b := (gb σ 69 11)) (rfl) h1
    refine wa_iload_n (i := 1) rfl rfl ?_
    refine wa_if_lt o_X10_isTold_21 (by decide) (fun h2 => ?_) (fun h2 => ?_)
    · refine wa_iconst (v := 0) (by decide) ?_
      refine wa_zreturn false (rfl) rfl rfl ?_
      exact ⟨_, rfl, rfl, trivial⟩
    · refine wa_iload_n (i := 1) rfl rfl ?_
      refine wa_bipush (v := 6) (by decide) ?_
      refine wa_icmp_gt o_X10_isTold_21 (by decide) (fun h3 => ?_) (fun h3 => ?_)
      · refine wa_iconst (v := 0) (by decide) ?_
        refine wa_zreturn false (rfl) rfl rfl ?_
        exact ⟨_, rfl, rfl, trivial⟩
      · refine wa_iconst (v := 1) (by decide) ?_
        refine wa_goto o_X10_isTold_22 (by decide) ?_
        refine wa_zreturn true (rfl) rfl rfl ?_
        exact ⟨_, rfl, rfl, trivial⟩
set_option maxHeartbeats 4000000 in
theorem sp_X10_toldBest (G : kG9) {d : Nat} (hd : 0 ≤ d) (σ : St) (a0 : Int32) : Ct G M_X10_toldBest d [.ref 69, .int a0] σ (fun r σ' => ∃ x : Int64, r = some (.long x) ∧ σ = σ' ∧ True) := by
  refine wa_start (by decide) rfl (Nat.le_of_ble_eq_true rfl) (lv := [(0, .ref 69), (1, .int a0)]) rfl o_X10_toldBest_0 rfl ?_
  have ua0 := Int32.toInt_lt a0
  have wa0 := Int32.le_toInt a0
  refine wa_iload_n (i := 1) rfl rfl ?_
  refine wa_iconst (v := 1) (by decide) ?_
  refine wa_icmp_ne o_X10_toldBest_11 (by decide) (fun h1 => ?_) (fun h1 => ?_)
  · refine wa_iload_n (i := 1) rfl rfl ?_
    refine wa_iconst (v := 2) (by decide) ?_
    refine wa_icmp_ne o_X10_toldBest_22 (by decide) (fun h2 => ?_) (fun h2 => ?_)
    · refine wa_iload_n (i := 1) rfl rfl ?_
      refine wa_iconst (v := 3) (by decide) ?_
      refine wa_isub ?_
      refine wa_top (fun v3 hv3 => ?_)
      have tv3 := i_subT hv3
      clear hv3
      refine wa_istore_nD (lv' := [(2, .int v3), (0, .ref 69), (1, .int a0)]) (i := 2) rfl (by decide) rfl ?_
      refine wa_iload_n (i := 1) rfl rfl ?_
      refine wa_if_ne o_X10_toldBest_37 (by decide) (fun h4 => ?_) (fun h4 => ?_)
      · refine wa_iload_n (i := 2) rfl rfl ?_
        refine wa_if_lt o_X10_toldBest_55 (by decide) (fun h5 => ?_) (fun h5 => ?_)
        · refine wa_lconst (v := 0) (by decide) ?_
          refine wa_lreturn rfl rfl ?_
          exact ⟨_, rfl, rfl, trivial⟩
        · refine wa_iload_n (i := 2) rfl rfl ?_
          refine wa_iconst (v := 4) (by decide) ?_
          refine wa_icmp_ge o_X10_toldBest_55 (by decide) (fun h6 => ?_) (fun h6 => ?_)
          · refine wa_lconst (v := 0) (by decide) ?_
            refine wa_lreturn rfl rfl ?_
            exact ⟨_, rfl, rfl, trivial⟩
          · have mh6 := nle_mx h6
            refine wa_aload_n (i := 0) rfl rfl ?_
            refine wa_getr ck_10 fl_10_25 ly_69 rf_69_5 ?_
            refine wa_iload_n (i := 2) rfl rfl ?_
            refine wa_lald ly_74 (by ((try simp only [vp_in_iff, Int32.lt_iff_toInt_lt, Int32.le_iff_toInt_le, ← Int32.toInt_inj, Int32.reduceToInt, n_1, n_2, n_8, Int32.toNatClampNeg, Int64.lt_iff_toInt_lt, Int64.le_iff_toInt_le, ← Int64.toInt_inj, Int64.reduceToInt, Int32.toInt_toInt64, lg_cmp_ge, lg_cmp_le, lg_cmp_gt, lg_cmp_lt, lg_cmp_eq, Bool.false_eq_true, Bool.true_eq_false, reduceCtorEq, false_iff, true_iff, iff_true, iff_false, and_true, true_and, and_false, false_and, reduceIte, ite_true, ite_false, eq_self] at *)) <;> omega) ?_
            refine wa_goto o_X10_toldBest_56 (by decide) ?_
            refine wa_lreturn rfl rfl ?_
            exact ⟨_, rfl, rfl, trivial⟩
      · refine wa_aload_n (i := 0) rfl rfl ?_
        refine wa_getl ck_10 fl_10_43 ly_69 ?_
        refine wa_goto o_X10_toldBest_56 (by decide) ?_
        refine wa_lreturn rfl rfl ?_
        exact ⟨_, rfl, rfl, trivial⟩
    · refine wa_aload_n (i := 0) rfl rfl ?_
      refine wa_geti ck_10 fl_10_40 ly_69 ?_
      refine wa_i2l ?_
      refine wa_lreturn rfl rfl ?_
      exact ⟨_, rfl, rfl, trivial⟩
  · refine wa_aload_n (i := 0) rfl rfl ?_
    refine wa_geti ck_10 fl_10_36 ly_69 ?_
    refine wa_i2l ?_
    refine wa_lreturn rfl rfl ?_
    exact ⟨_, rfl, rfl, trivial⟩
set_option maxRecDepth 100000 in
set_option maxHeartbeats 4000000 in
theorem sp_J7_fill_d0a16_at_74 (G : kG9) {d : Nat} (hd : 0 ≤ d) (σ : St) (a1 : Int64) : Ct G M_J7_fill_d0a16 d [.ref 74, .long a1] σ (fun r σ' => Sm 74 75 σ σ' ∧ True) := by
  refine wa_startF (by decide +kernel) rfl (Nat.le_of_ble_eq_true rfl) (lv := [(0, .ref 74), (1, .long a1)]) rfl o_J7_fill_d0a16_0 rfl ?_
  refine wa_iconst (v := 0) (by decide) ?_
  refine wa_istore_nD (lv' := [(3, .int 0), (0, .ref 74), (1, .long a1)]) (i := 3) rfl (by decide) rfl ?_
  refine wa_aload_n (i := 0) rfl rfl ?_
  refine wa_alen ly_74 (by decide) ?_
  refine wa_rw (show Int32.ofNat 4 = 4 from rfl) ?_
  refine wa_istoreD (lv' := [(4, .int 4), (3, .int 0), (0, .ref 74), (1, .long a1)]) (by decide) rfl ?_
  refine wa_pick [2, 3, 1, 0] rfl ?_
  have hi3 : ∀ (n9_6 : Nat) (l3 : Int32) (s1 : St), ((Sm 74 75 σ s1) ∧ (0 ≤ l3.toInt) ∧ (True)) → (2147483647 - l3.toInt).toNat = n9_6 → WA G M_J7_fill_d0a16 (ZM G M_J7_fill_d0a16 d (fun r σ' => Sm 74 75 σ σ' ∧ True)) B_J7_fill_d0a16_6 [(0, .ref 74), (1, .long a1), (3, .int l3), (4, .int 4)] [] s1 := by
    intro n9_6
    induction n9_6 using Nat.strongRecOn with
    | _ n9_6 ih2 =>
      intro l3 s1 i9 m9_6
      obtain ⟨Fs1, jhi3_0, -⟩ := i9
      have ul3 := Int32.toInt_lt l3
      have wl3 := Int32.le_toInt l3
      refine wa_iload_n (i := 3) rfl rfl ?_
      refine wa_iload rfl ?_
      refine wa_icmp_ge o_J7_fill_d0a16_22 (by decide) (fun h4 => ?_) (fun h4 => ?_)
      · refine wa_return (st := []) rfl rfl ?_
        exact ⟨Fs1, trivial⟩
      · have mh4 := nle_mx h4
        refine wa_aload_n (i := 0) rfl rfl ?_
        refine wa_iload_n (i := 3) rfl rfl ?_
        refine wa_lload_n (i := 1) rfl rfl ?_
        refine wa_last ly_74 (by ((try simp only [vp_in_iff, Int32.lt_iff_toInt_lt, Int32.le_iff_toInt_le, ← Int32.toInt_inj, Int32.reduceToInt, n_1, n_2, n_8, Int32.toNatClampNeg, Int64.lt_iff_toInt_lt, Int64.le_iff_toInt_le, ← Int64.toInt_inj, Int64.reduceToInt, Int32.toInt_toInt64, lg_cmp_ge, lg_cmp_le, lg_cmp_gt, lg_cmp_lt, lg_cmp_eq, Bool.false_eq_true, Bool.true_eq_false, reduceCtorEq, false_iff, true_iff, iff_true, iff_false, and_true, true_and, and_false, false_and, reduceIte, ite_true, ite_false, eq_self] at *)) <;> omega) (fun s5 hs5 => ?_)
        have Fs5 : Sm 74 75 σ s5 := by rw [hs5]; exact Sm.sl Fs1 _ _ (by decide) (by decide)
        refine wa_iinc (v := (1)) (lv' := fun y6 => [(3, .int y6), (0, .ref 74), (1, .long a1), (4, .int 4)]) (by decide) rfl (by decide) (fun _ => rfl) (fun y6 hy6 => ?_)
        have ty6 := i_addT hy6.symm
        clear hy6
        refine wa_goto o_J7_fill_d0a16_6 (by decide) ?_
        refine wa_pick [1, 2, 0, 3] rfl ?_
        exact ih2 _ (by ((try simp only [vp_in_iff, Int32.lt_iff_toInt_lt, Int32.le_iff_toInt_le, ← Int32.toInt_inj, Int32.reduceToInt, n_1, n_2, n_8, Int32.toNatClampNeg, Int64.lt_iff_toInt_lt, Int64.le_iff_toInt_le, ← Int64.toInt_inj, Int64.reduceToInt, Int32.toInt_toInt64, lg_cmp_ge, lg_cmp_le, lg_cmp_gt, lg_cmp_lt, lg_cmp_eq, Bool.false_eq_true, Bool.true_eq_false, reduceCtorEq, false_iff, true_iff, iff_true, iff_false, and_true, true_and, and_false, false_and, reduceIte, ite_true, ite_false, eq_self] at *)) <;> omega) _ _ ⟨Fs5, (by ((try simp only [vp_in_iff, Int32.lt_iff_toInt_lt, Int32.le_iff_toInt_le, ← Int32.toInt_inj, Int32.reduceToInt, n_1, n_2, n_8, Int32.toNatClampNeg, Int64.lt_iff_toInt_lt, Int64.le_iff_toInt_le, ← Int64.toInt_inj, Int64.reduceToInt, Int32.toInt_toInt64, lg_cmp_ge, lg_cmp_le, lg_cmp_gt, lg_cmp_lt, lg_cmp_eq, Bool.false_eq_true, Bool.true_eq_false, reduceCtorEq, false_iff, true_iff, iff_true, iff_false, and_true, true_and, and_false, false_and, reduceIte, ite_true, ite_false, eq_self] at *)) <;> omega), trivial⟩ rfl
  exact hi3 _ _ _ ⟨(Sm.rf 74 75 σ), (by ((try simp only [vp_in_iff, Int32.lt_iff_toInt_lt, Int32.le_iff_toInt_le, ← Int32.toInt_inj, Int32.reduceToInt, n_1, n_2, n_8, Int32.toNatClampNeg, Int64.lt_iff_toInt_lt, Int64.le_iff_toInt_le, ← Int64.toInt_inj, Int64.reduceToInt, Int32.toInt_toInt64, lg_cmp_ge, lg_cmp_le, lg_cmp_gt, lg_cmp_lt, lg_cmp_eq, Bool.false_eq_true, Bool.true_eq_false, reduceCtorEq, false_iff, true_iff, iff_true, iff_false, and_true, true_and, and_false, false_and, reduceIte, ite_true, ite_false, eq_self] at *)) <;> omega), trivial⟩ rfl
set_option maxHeartbeats 4000000 in
theorem sp_X10_lay (G : kG9) {d : Nat} (hd : 0 ≤ d) (σ : St) (a0 : Int32) (a1 : Int32) (a2 : Int32) (a3 : Int64) : Ct G M_X10_lay d [.ref 69, .int a0, .int a1, .int a2, .long a3] σ (fun r σ' => Sm 69 74 σ σ' ∧ True) := by
  refine wa_start (by decide) rfl (Nat.le_of_ble_eq_true rfl) (lv := [(0, .ref 69), (1, .int a0), (2, .int a1), (3, .int a2), (4, .long a3)]) rfl o_X10_lay_0 rfl ?_
  have ua0 := Int32.toInt_lt a0
  have wa0 := Int32.le_toInt a0
  have ua1 := Int32.toInt_lt a1
  have wa1 := Int32.le_toInt a1
  have ua2 := Int32.toInt_lt a2
  have wa2 := Int32.le_toInt a2
  refine wa_aload_n (i := 0) rfl rfl ?_
  refine wa_geti ck_10 fl_10_56 ly_69 ?_
  refine wa_if_lt o_X10_lay_68 (by decide) (fun h1 => ?_) (fun h1 => ?_)
  · refine wa_return (st := []) rfl rfl ?_
    exact ⟨(Sm.rf 69 74 σ), trivial⟩
  · refine wa_aload_n (i := 0) rfl rfl ?_
    refine wa_geti ck_10 fl_10_56 ly_69 ?_
    refine wa_sipush (v := 256) (by decide) ?_
    refine wa_icmp_ge o_X10_lay_68 (by decide) (fun h2 => ?_) (fun h2 => ?_)
    · refine wa_return (st := []) rfl rfl ?_
      exact ⟨(Sm.rf 69 74 σ), trivial⟩
    · have mh2 := nle_mx h2
      refine wa_aload_n (i := 0) rfl rfl ?_
      refine wa_getr ck_10 fl_10_11 ly_69 rf_69_1 ?_
      refine wa_aload_n (i := 0) rfl rfl ?_
      refine wa_geti ck_10 fl_10_56 ly_69 ?_
      refine wa_iload_n (i := 1) rfl rfl ?_
      refine wa_iast ly_70 (by ((try simp only [vp_in_iff, Int32.lt_iff_toInt_lt, Int32.le_iff_toInt_le, ← Int32.toInt_inj, Int32.reduceToInt, n_1, n_2, n_8, Int32.toNatClampNeg, Int64.lt_iff_toInt_lt, Int64.le_iff_toInt_le, ← Int64.toInt_inj, Int64.reduceToInt, Int32.toInt_toInt64, lg_cmp_ge, lg_cmp_le, lg_cmp_gt, lg_cmp_lt, lg_cmp_eq, Bool.false_eq_true, Bool.true_eq_false, reduceCtorEq, false_iff, true_iff, iff_true, iff_false, and_true, true_and, and_false, false_and, reduceIte, ite_true, ite_false, eq_self] at *)) <;> omega) (fun s3 hs3 => ?_)
      have Fs3 : Sm 69 74 σ s3 := by rw [hs3]; exact Sm.si (Sm.rf 69 74 σ) _ _ (by decide) (by decide)
      refine wa_aload_n (i := 0) rfl rfl ?_
      refine wa_getr ck_10 fl_10_15 ly_69 rf_69_2 ?_
      refine wa_aload_n (i := 0) rfl rfl ?_
      refine wa_geti ck_10 fl_10_56 ly_69 ?_
      refine wa_rw (nxq_gi_si hs3 (by decide)) ?_
      refine wa_iload_n (i := 2) rfl rfl ?_
      refine wa_iast ly_71 (by ((try simp only [vp_in_iff, Int32.lt_iff_toInt_lt, Int32.le_iff_toInt_le, ← Int32.toInt_inj, Int32.reduceToInt, n_1, n_2, n_8, Int32.toNatClampNeg, Int64.lt_iff_toInt_lt, Int64.le_iff_toInt_le, ← Int64.toInt_inj, Int64.reduceToInt, Int32.toInt_toInt64, lg_cmp_ge, lg_cmp_le, lg_cmp_gt, lg_cmp_lt, lg_cmp_eq, Bool.false_eq_true, Bool.true_eq_false, reduceCtorEq, false_iff, true_iff, iff_true, iff_false, and_true, true_and, and_false, false_and, reduceIte, ite_true, ite_false, eq_self] at *)) <;> omega) (fun s4 hs4 => ?_)
      have Fs4 : Sm 69 74 σ s4 := by rw [hs4]; exact Sm.si Fs3 _ _ (by decide) (by decide)
      refine wa_aload_n (i := 0) rfl rfl ?_
      refine wa_getr ck_10 fl_10_18 ly_69 rf_69_3 ?_
      refine wa_aload_n (i := 0) rfl rfl ?_
      refine wa_geti ck_10 fl_10_56 ly_69 ?_
      refine wa_rw ((nxq_gi_si hs4 (by decide)).trans (nxq_gi_si hs3 (by decide))) ?_
      refine wa_iload_n (i := 3) rfl rfl ?_
      refine wa_iast ly_72 (by ((try simp only [vp_in_iff, Int32.lt_iff_toInt_lt, Int32.le_iff_toInt_le, ← Int32.toInt_inj, Int32.reduceToInt, n_1, n_2, n_8, Int32.toNatClampNeg, Int64.lt_iff_toInt_lt, Int64.le_iff_toInt_le, ← Int64.toInt_inj, Int64.reduceToInt, Int32.toInt_toInt64, lg_cmp_ge, lg_cmp_le, lg_cmp_gt, lg_cmp_lt, lg_cmp_eq, Bool.false_eq_true, Bool.true_eq_false, reduceCtorEq, false_iff, true_iff, iff_true, iff_false, and_true, true_and, and_false, false_and, reduceIte, ite_true, ite_false, eq_self] at *)) <;> omega) (fun s5 hs5 => ?_)
      have Fs5 : Sm 69 74 σ s5 := by rw [hs5]; exact Sm.si Fs4 _ _ (by decide) (by decide)
      refine wa_aload_n (i := 0) rfl rfl ?_
      refine wa_getr ck_10 fl_10_21 ly_69 rf_69_4 ?_
      refine wa_aload_n (i := 0) rfl rfl ?_
      refine wa_geti ck_10 fl_10_56 ly_69 ?_
      refine wa_rw ((nxq_gi_si hs5 (by decide)).trans ((nxq_gi_si hs4 (by decide)).trans (nxq_gi_si hs3 (by decide)))) ?_
      refine wa_lload rfl ?_
      refine wa_last ly_73 (by ((try simp only [vp_in_iff, Int32.lt_iff_toInt_lt, Int32.le_iff_toInt_le, ← Int32.toInt_inj, Int32.reduceToInt, n_1, n_2, n_8, Int32.toNatClampNeg, Int64.lt_iff_toInt_lt, Int64.le_iff_toInt_le, ← Int64.toInt_inj, Int64.reduceToInt, Int32.toInt_toInt64, lg_cmp_ge, lg_cmp_le, lg_cmp_gt, lg_cmp_lt, lg_cmp_eq, Bool.false_eq_true, Bool.true_eq_false, reduceCtorEq, false_iff, true_iff, iff_true, iff_false, and_true, true_and, and_false, false_and, reduceIte, ite_true, ite_false, eq_self] at *)) <;> omega) (fun s6 hs6 => ?_)
      have Fs6 : Sm 69 74 σ s6 := by rw [hs6]; exact Sm.sl Fs5 _ _ (by decide) (by decide)
      refine wa_aload_n (i := 0) rfl rfl ?_
      refine wa_dup rfl ?_
      refine wa_geti ck_10 fl_10_56 ly_69 ?_
      refine wa_rw ((nx_gi_sl hs6).trans ((nxq_gi_si hs5 (by decide)).trans ((nxq_gi_si hs4 (by decide)).trans (nxq_gi_si hs3 (by decide))))) ?_
      refine wa_iconst (v := 1) (by decide) ?_
      refine wa_iadd ?_
      refine wa_top (fun v7 hv7 => ?_)
      have tv7 := i_addT hv7
      clear hv7
      refine wa_puti ck_10 fl_10_56 ly_69 (fun s8 hs8 => ?_)
      have Fs8 : Sm 69 74 σ s8 := by rw [hs8]; exact Sm.si Fs6 _ _ (by decide) (by decide)
      refine wa_return (st := []) rfl rfl ?_
      exact ⟨Fs8, trivial⟩
set_option maxHeartbeats 4000000 in
theorem sp_X10_take (G : kG9) {d : Nat} (hd : 3 ≤ d) (σ : St) (r1 : 0 ≤ (gi σ 60 12).toInt ∧ (gi σ 60 12).toInt ≤ 4) : Ct G M_X10_take d [.ref 69] σ (fun r σ' => Sm 60 70 σ σ' ∧ (0 ≤ (gi σ' 60 12).toInt ∧ (gi σ' 60 12).toInt ≤ 4) ∧ True) := by
  refine wa_start (by decide) rfl (Nat.le_of_ble_eq_true rfl) (lv := [(0, .ref 69)]) rfl o_X10_take_0 rfl ?_
  refine wa_aload_n (i := 0) rfl rfl ?_
  refine wa_geti ck_10 fl_10_56 ly_69 ?_
  refine wa_if_le o_X10_take_100 (by decide) (fun h1 => ?_) (fun h1 => ?_)
  · refine wa_return (st := []) rfl rfl ?_
    exact ⟨(Sm.rf 60 70 σ), (by first | assumption | (((try simp only [vp_in_iff, Int32.lt_iff_toInt_lt, Int32.le_iff_toInt_le, ← Int32.toInt_inj, Int32.reduceToInt, n_1, n_2, n_8, Int32.toNatClampNeg, Int64.lt_iff_toInt_lt, Int64.le_iff_toInt_le, ← Int64.toInt_inj, Int64.reduceToInt, Int32.toInt_toInt64, lg_cmp_ge, lg_cmp_le, lg_cmp_gt, lg_cmp_lt, lg_cmp_eq, Bool.false_eq_true, Bool.true_eq_false, reduceCtorEq, false_iff, true_iff, iff_true, iff_false, and_true, true_and, and_false, false_and, reduceIte, ite_true, ite_false, eq_self] at *)) <;> omega)), trivial⟩
  · refine wa_aload_n (i := 0) rfl rfl ?_
    refine wa_geti ck_10 fl_10_56 ly_69 ?_
    refine wa_sipush (v := 256) (by decide) ?_
    refine wa_icmp_gt o_X10_take_100 (by decide) (fun h2 => ?_) (fun h2 => ?_)
    · refine wa_return (st := []) rfl rfl ?_
      exact ⟨(Sm.rf 60 70 σ), (by first | assumption | (((try simp only [vp_in_iff, Int32.lt_iff_toInt_lt, Int32.le_iff_toInt_le, ← Int32.toInt_inj, Int32.reduceToInt, n_1, n_2, n_8, Int32.toNatClampNeg, Int64.lt_iff_toInt_lt, Int64.le_iff_toInt_le, ← Int64.toInt_inj, Int64.reduceToInt, Int32.toInt_toInt64, lg_cmp_ge, lg_cmp_le, lg_cmp_gt, lg_cmp_lt, lg_cmp_eq, Bool.false_eq_true, Bool.true_eq_false, reduceCtorEq, false_iff, true_iff, iff_true, iff_false, and_true, true_and, and_false, false_and, reduceIte, ite_true, ite_false, eq_self] at *)) <;> omega)), trivial⟩
    · refine wa_aload_n (i := 0) rfl rfl ?_
      refine wa_dup rfl ?_
      refine wa_geti ck_10 fl_10_56 ly_69 ?_
      refine wa_iconst (v := 1) (by decide) ?_
      refine wa_isub ?_
      refine wa_top (fun v3 hv3 => ?_)
      have tv3 := i_subT hv3
      clear hv3
      refine wa_puti ck_10 fl_10_56 ly_69 (fun s4 hs4 => ?_)
      have Fs4 : Sm 60 70 σ s4 := by rw [hs4]; exact Sm.si (Sm.rf 60 70 σ) _ _ (by decide) (by decide)
      refine wa_aload_n (i := 0) rfl rfl ?_
      refine wa_dup rfl ?_
      refine wa_geti ck_10 fl_10_36 ly_69 ?_
      refine wa_rw (nxk_gi_si hs4 (by decide)) ?_
      refine wa_iconst (v := 1) (by decide) ?_
      refine wa_iadd ?_
      refine wa_top (fun v5 hv5 => ?_)
      have tv5 := i_addT hv5
      clear hv5
      refine wa_puti ck_10 fl_10_36 ly_69 (fun s6 hs6 => ?_)
      have Fs6 : Sm 60 70 σ s6 := by rw [hs6]; exact Sm.si Fs4 _ _ (by decide) (by decide)
      refine wa_aload_n (i := 0) rfl rfl ?_
      refine wa_getr ck_10 fl_10_28 ly_69 rf_69_0 ?_
      refine wa_aload_n (i := 0) rfl rfl ?_
      refine wa_getr ck_10 fl_10_11 ly_69 rf_69_1 ?_
      refine wa_aload_n (i := 0) rfl rfl ?_
      refine wa_geti ck_10 fl_10_56 ly_69 ?_
      refine wa_rw ((nxk_gi_si hs6 (by decide)).trans (nxe_gi_si hs4)) ?_
      refine wa_iald ly_70 (by ((try simp only [vp_in_iff, Int32.lt_iff_toInt_lt, Int32.le_iff_toInt_le, ← Int32.toInt_inj, Int32.reduceToInt, n_1, n_2, n_8, Int32.toNatClampNeg, Int64.lt_iff_toInt_lt, Int64.le_iff_toInt_le, ← Int64.toInt_inj, Int64.reduceToInt, Int32.toInt_toInt64, lg_cmp_ge, lg_cmp_le, lg_cmp_gt, lg_cmp_lt, lg_cmp_eq, Bool.false_eq_true, Bool.true_eq_false, reduceCtorEq, false_iff, true_iff, iff_true, iff_false, and_true, true_and, and_false, false_and, reduceIte, ite_true, ite_false, eq_self] at *)) <;> omega) ?_
      refine wa_puti ck_9 fl_10_59 ly_60 (fun s7 hs7 => ?_)
      have Fs7 : Sm 60 70 σ s7 := by rw [hs7]; exact Sm.si Fs6 _ _ (by decide) (by decide)
      refine wa_aload_n (i := 0) rfl rfl ?_
      refine wa_getr ck_10 fl_10_15 ly_69 rf_69_2 ?_
      refine wa_aload_n (i := 0) rfl rfl ?_
      refine wa_geti ck_10 fl_10_56 ly_69 ?_
      refine wa_rw ((nxq_gi_si hs7 (by decide)).trans ((nxk_gi_si hs6 (by decide)).trans (nxe_gi_si hs4))) ?_
      refine wa_iald ly_71 (by ((try simp only [vp_in_iff, Int32.lt_iff_toInt_lt, Int32.le_iff_toInt_le, ← Int32.toInt_inj, Int32.reduceToInt, n_1, n_2, n_8, Int32.toNatClampNeg, Int64.lt_iff_toInt_lt, Int64.le_iff_toInt_le, ← Int64.toInt_inj, Int64.reduceToInt, Int32.toInt_toInt64, lg_cmp_ge, lg_cmp_le, lg_cmp_gt, lg_cmp_lt, lg_cmp_eq, Bool.false_eq_true, Bool.true_eq_false, reduceCtorEq, false_iff, true_iff, iff_true, iff_false, and_true, true_and, and_false, false_and, reduceIte, ite_true, ite_false, eq_self] at *)) <;> omega) ?_
      refine wa_iconst (v := (-1)) (by decide) ?_
      refine wa_icmp_eq o_X10_take_100 (by decide) (fun h8 => ?_) (fun h8 => ?_)
      · refine wa_return (st := []) rfl rfl ?_
        exact ⟨Fs7, (by rw [(nxk_gi_si hs7 (by decide)).trans ((nxq_gi_si hs6 (by decide)).trans (nxq_gi_si hs4 (by decide)))]; first | assumption | (((try simp only [vp_in_iff, Int32.lt_iff_toInt_lt, Int32.le_iff_toInt_le, ← Int32.toInt_inj, Int32.reduceToInt, n_1, n_2, n_8, Int32.toNatClampNeg, Int64.lt_iff_toInt_lt, Int64.le_iff_toInt_le, ← Int64.toInt_inj, Int64.reduceToInt, Int32.toInt_toInt64, lg_cmp_ge, lg_cmp_le, lg_cmp_gt, lg_cmp_lt, lg_cmp_eq, Bool.false_eq_true, Bool.true_eq_false, reduceCtorEq, false_iff, true_iff, iff_true, iff_false, and_true, true_and, and_false, false_and, reduceIte, ite_true, ite_false, eq_self] at *)) <;> omega)), trivial⟩
      · refine wa_aload_n (i := 0) rfl rfl ?_
        refine wa_getr ck_10 fl_10_28 ly_69 rf_69_0 ?_
        refine wa_aload_n (i := 0) rfl rfl ?_
        refine wa_getr ck_10 fl_10_15 ly_69 rf_69_2 ?_
        refine wa_aload_n (i := 0) rfl rfl ?_
        refine wa_geti ck_10 fl_10_56 ly_69 ?_
        refine wa_rw ((nxq_gi_si hs7 (by decide)).trans ((nxk_gi_si hs6 (by decide)).trans (nxe_gi_si hs4))) ?_
        refine wa_iald ly_71 (by ((try simp only [vp_in_iff, Int32.lt_iff_toInt_lt, Int32.le_iff_toInt_le, ← Int32.toInt_inj, Int32.reduceToInt, n_1, n_2, n_8, Int32.toNatClampNeg, Int64.lt_iff_toInt_lt, Int64.le_iff_toInt_le, ← Int64.toInt_inj, Int64.reduceToInt, Int32.toInt_toInt64, lg_cmp_ge, lg_cmp_le, lg_cmp_gt, lg_cmp_lt, lg_cmp_eq, Bool.false_eq_true, Bool.true_eq_false, reduceCtorEq, false_iff, true_iff, iff_true, iff_false, and_true, true_and, and_false, false_and, reduceIte, ite_true, ite_false, eq_self] at *)) <;> omega) ?_
        refine wa_aload_n (i := 0) rfl rfl ?_
        refine wa_getr ck_10 fl_10_18 ly_69 rf_69_3 ?_
        refine wa_aload_n (i := 0) rfl rfl ?_
        refine wa_geti ck_10 fl_10_56 ly_69 ?_
        refine wa_rw ((nxq_gi_si hs7 (by decide)).trans ((nxk_gi_si hs6 (by decide)).trans (nxe_gi_si hs4))) ?_
        refine wa_iald ly_72 (by ((try simp only [vp_in_iff, Int32.lt_iff_toInt_lt, Int32.le_iff_toInt_le, ← Int32.toInt_inj, Int32.reduceToInt, n_1, n_2, n_8, Int32.toNatClampNeg, Int64.lt_iff_toInt_lt, Int64.le_iff_toInt_le, ← Int64.toInt_inj, Int64.reduceToInt, Int32.toInt_toInt64, lg_cmp_ge, lg_cmp_le, lg_cmp_gt, lg_cmp_lt, lg_cmp_eq, Bool.false_eq_true, Bool.true_eq_false, reduceCtorEq, false_iff, true_iff, iff_true, iff_false, and_true, true_and, and_false, false_and, reduceIte, ite_true, ite_false, eq_self] at *)) <;> omega) ?_
        refine wa_aload_n (i := 0) rfl rfl ?_
        refine wa_getr ck_10 fl_10_21 ly_69 rf_69_4 ?_
        refine wa_aload_n (i := 0) rfl rfl ?_
        refine wa_geti ck_10 fl_10_56 ly_69 ?_
        refine wa_rw ((nxq_gi_si hs7 (by decide)).trans ((nxk_gi_si hs6 (by decide)).trans (nxe_gi_si hs4))) ?_
        refine wa_lald ly_73 (by ((try simp only [vp_in_iff, Int32.lt_iff_toInt_lt, Int32.le_iff_toInt_le, ← Int32.toInt_inj, Int32.reduceToInt, n_1, n_2, n_8, Int32.toNatClampNeg, Int64.lt_iff_toInt_lt, Int64.le_iff_toInt_le, ← Int64.toInt_inj, Int64.reduceToInt, Int32.toInt_toInt64, lg_cmp_ge, lg_cmp_le, lg_cmp_gt, lg_cmp_lt, lg_cmp_eq, Bool.false_eq_true, Bool.true_eq_false, reduceCtorEq, false_iff, true_iff, iff_true, iff_false, and_true, true_and, and_false, false_and, reduceIte, ite_true, ite_false, eq_self] at *)) <;> omega) ?_
        refine wa_Vv (d9 := d - 1) [.int _, .int _, .long _] [] (sp_X9_addLimit G (d := d - 1) (by omega) s7 _ _ _ (by rw [(nxk_gi_si hs7 (by decide)).trans ((nxq_gi_si hs6 (by decide)).trans (nxq_gi_si hs4 (by decide)))]; first | assumption | exact Or.inl rfl | exact Or.inr rfl | (((try simp only [vp_in_iff, Int32.lt_iff_toInt_lt, Int32.le_iff_toInt_le, ← Int32.toInt_inj, Int32.reduceToInt, n_1, n_2, n_8, Int32.toNatClampNeg, Int64.lt_iff_toInt_lt, Int64.le_iff_toInt_le, ← Int64.toInt_inj, Int64.reduceToInt, Int32.toInt_toInt64, lg_cmp_ge, lg_cmp_le, lg_cmp_gt, lg_cmp_lt, lg_cmp_eq, Bool.false_eq_true, Bool.true_eq_false, reduceCtorEq, false_iff, true_iff, iff_true, iff_false, and_true, true_and, and_false, false_and, reduceIte, ite_true, ite_false, eq_self] at *)) <;> omega))) (rfl) rfl rfl (zr (by omega)) mk_X9_addLimit ly_60 ml_10_75 (Nat.le_of_ble_eq_true rfl) (fun s9 hs9 => ?_)
        obtain ⟨fs9, cx10_1, -⟩ := hs9
        have Fs9 := Sm.tr Fs7 (Sm.wd fs9 (lo' := 60) (hi' := 70) (by decide) (by decide))
        refine wa_return (st := []) rfl rfl ?_
        exact ⟨Fs9, (by first | assumption | (((try simp only [vp_in_iff, Int32.lt_iff_toInt_lt, Int32.le_iff_toInt_le, ← Int32.toInt_inj, Int32.reduceToInt, n_1, n_2, n_8, Int32.toNatClampNeg, Int64.lt_iff_toInt_lt, Int64.le_iff_toInt_le, ← Int64.toInt_inj, Int64.reduceToInt, Int32.toInt_toInt64, lg_cmp_ge, lg_cmp_le, lg_cmp_gt, lg_cmp_lt, lg_cmp_eq, Bool.false_eq_true, Bool.true_eq_false, reduceCtorEq, false_iff, true_iff, iff_true, iff_false, and_true, true_and, and_false, false_and, reduceIte, ite_true, ite_false, eq_self] at *)) <;> omega)), trivial⟩
set_option maxHeartbeats 4000000 in
theorem sp_X10_keepBest (G : kG9) {d : Nat} (hd : 2 ≤ d) (σ : St) (r1 : 0 ≤ (gi σ 60 12).toInt ∧ (gi σ 60 12).toInt ≤ 4) : Ct G M_X10_keepBest d [.ref 69] σ (fun r σ' => Sm 69 75 σ σ' ∧ True) := by
  refine wa_start (by decide) rfl (Nat.le_of_ble_eq_true rfl) (lv := [(0, .ref 69)]) rfl o_X10_keepBest_0 rfl ?_
  refine wa_aload_n (i := 0) rfl rfl ?_
  refine wa_iconst (v := 1) (by decide) ?_
  refine wa_putz true (rfl) ck_10 fl_10_47 ly_69 (fun s1 hs1 => ?_)
  have Fs1 : Sm 69 75 σ s1 := by rw [hs1]; exact Sm.sb (Sm.rf 69 75 σ) _ _ (by decide) (by decide)
  refine wa_aload_n (i := 0) rfl rfl ?_
  refine wa_aload_n (i := 0) rfl rfl ?_
  refine wa_getr ck_10 fl_10_28 ly_69 rf_69_0 ?_
  refine wa_Vl (d9 := d - 1) [] [.ref 69] (sp_X9_goalDown G (d := d - 1) (by omega) s1  (by rw [nx_gi_sb hs1]; first | assumption | exact Or.inl rfl | exact Or.inr rfl | (((try simp only [vp_in_iff, Int32.lt_iff_toInt_lt, Int32.le_iff_toInt_le, ← Int32.toInt_inj, Int32.reduceToInt, n_1, n_2, n_8, Int32.toNatClampNeg, Int64.lt_iff_toInt_lt, Int64.le_iff_toInt_le, ← Int64.toInt_inj, Int64.reduceToInt, Int32.toInt_toInt64, lg_cmp_ge, lg_cmp_le, lg_cmp_gt, lg_cmp_lt, lg_cmp_eq, Bool.false_eq_true, Bool.true_eq_false, reduceCtorEq, false_iff, true_iff, iff_true, iff_false, and_true, true_and, and_false, false_and, reduceIte, ite_true, ite_false, eq_self] at *)) <;> omega))) (rfl) rfl rfl (zr (by omega)) mk_X9_goalDown ly_60 ml_10_83 (Nat.le_of_ble_eq_true rfl) (fun x3 s2 hs2 => ?_)
  obtain ⟨zs2, -⟩ := pL hs2
  subst zs2
  refine wa_putl ck_10 fl_10_43 ly_69 (fun s4 hs4 => ?_)
  have Fs4 : Sm 69 75 σ s4 := by rw [hs4]; exact Sm.sl Fs1 _ _ (by decide) (by decide)
  refine wa_iconst (v := 0) (by decide) ?_
  refine wa_istore_nD (lv' := [(1, .int 0), (0, .ref 69)]) (i := 1) rfl (by decide) rfl ?_
  refine wa_pick [1, 0] rfl ?_
  have hi7 : ∀ (n9_18 : Nat) (l1 : Int32) (s5 : St), ((Sm 69 75 σ s5) ∧ (gi s5 60 12 = gi σ 60 12) ∧ (0 ≤ l1.toInt) ∧ (True)) → (2147483647 - l1.toInt).toNat = n9_18 → WA G M_X10_keepBest (ZM G M_X10_keepBest d (fun r σ' => Sm 69 75 σ σ' ∧ True)) B_X10_keepBest_18 [(0, .ref 69), (1, .int l1)] [] s5 := by
    intro n9_18
    induction n9_18 using Nat.strongRecOn with
    | _ n9_18 ih6 =>
      intro l1 s5 i9 m9_18
      obtain ⟨Fs5, khi7_0, jhi7_0, -⟩ := i9
      have ul1 := Int32.toInt_lt l1
      have wl1 := Int32.le_toInt l1
      refine wa_iload_n (i := 1) rfl rfl ?_
      refine wa_iconst (v := 4) (by decide) ?_
      refine wa_icmp_ge o_X10_keepBest_58 (by decide) (fun h8 => ?_) (fun h8 => ?_)
      · refine wa_return (st := []) rfl rfl ?_
        exact ⟨Fs5, trivial⟩
      · have mh8 := nle_mx h8
        refine wa_aload_n (i := 0) rfl rfl ?_
        refine wa_getr ck_10 fl_10_25 ly_69 rf_69_5 ?_
        refine wa_iload_n (i := 1) rfl rfl ?_
        refine wa_iload_n (i := 1) rfl rfl ?_
        refine wa_aload_n (i := 0) rfl rfl ?_
        refine wa_getr ck_10 fl_10_28 ly_69 rf_69_0 ?_
        refine wa_geti ck_9 fl_10_99 ly_60 ?_
        refine wa_rw (khi7_0) ?_
        refine wa_icmp_ge o_X10_keepBest_50 (by decide) (fun h9 => ?_) (fun h9 => ?_)
        · refine wa_lconst (v := 0) (by decide) ?_
          refine wa_last ly_74 (by ((try simp only [vp_in_iff, Int32.lt_iff_toInt_lt, Int32.le_iff_toInt_le, ← Int32.toInt_inj, Int32.reduceToInt, n_1, n_2, n_8, Int32.toNatClampNeg, Int64.lt_iff_toInt_lt, Int64.le_iff_toInt_le, ← Int64.toInt_inj, Int64.reduceToInt, Int32.toInt_toInt64, lg_cmp_ge, lg_cmp_le, lg_cmp_gt, lg_cmp_lt, lg_cmp_eq, Bool.false_eq_true, Bool.true_eq_false, reduceCtorEq, false_iff, true_iff, iff_true, iff_false, and_true, true_and, and_false, false_and, reduceIte, ite_true, ite_false, eq_self] at *)) <;> omega) (fun s10 hs10 => ?_)
          have Fs10 : Sm 69 75 σ s10 := by rw [hs10]; exact Sm.sl Fs5 _ _ (by decide) (by decide)
          refine wa_iinc (v := (1)) (lv' := fun y11 => [(1, .int y11), (0, .ref 69)]) (by decide) rfl (by decide) (fun _ => rfl) (fun y11 hy11 => ?_)
          have ty11 := i_addT hy11.symm
          clear hy11
          refine wa_goto o_X10_keepBest_18 (by decide) ?_
          refine wa_pick [1, 0] rfl ?_
          exact ih6 _ (by ((try simp only [vp_in_iff, Int32.lt_iff_toInt_lt, Int32.le_iff_toInt_le, ← Int32.toInt_inj, Int32.reduceToInt, n_1, n_2, n_8, Int32.toNatClampNeg, Int64.lt_iff_toInt_lt, Int64.le_iff_toInt_le, ← Int64.toInt_inj, Int64.reduceToInt, Int32.toInt_toInt64, lg_cmp_ge, lg_cmp_le, lg_cmp_gt, lg_cmp_lt, lg_cmp_eq, Bool.false_eq_true, Bool.true_eq_false, reduceCtorEq, false_iff, true_iff, iff_true, iff_false, and_true, true_and, and_false, false_and, reduceIte, ite_true, ite_false, eq_self] at *)) <;> omega) _ _ ⟨Fs10, ((nx_gi_sl hs10).trans (khi7_0)), (by ((try simp only [vp_in_iff, Int32.lt_iff_toInt_lt, Int32.le_iff_toInt_le, ← Int32.toInt_inj, Int32.reduceToInt, n_1, n_2, n_8, Int32.toNatClampNeg, Int64.lt_iff_toInt_lt, Int64.le_iff_toInt_le, ← Int64.toInt_inj, Int64.reduceToInt, Int32.toInt_toInt64, lg_cmp_ge, lg_cmp_le, lg_cmp_gt, lg_cmp_lt, lg_cmp_eq, Bool.false_eq_true, Bool.true_eq_false, reduceCtorEq, false_iff, true_iff, iff_true, iff_false, and_true, true_and, and_false, false_and, reduceIte, ite_true, ite_false, eq_self] at *)) <;> omega), trivial⟩ rfl
        · have mh9 := nle_mx h9
          refine wa_aload_n (i := 0) rfl rfl ?_
          refine wa_getr ck_10 fl_10_28 ly_69 rf_69_0 ?_
          refine wa_iload_n (i := 1) rfl rfl ?_
          refine wa_Vl (d9 := d - 1) [.int _] [.int l1, .ref 74] (sp_X9_down G (d := d - 1) (by omega) s5 _) (rfl) rfl rfl (zr (by omega)) mk_X9_down ly_60 ml_10_102 (Nat.le_of_ble_eq_true rfl) (fun x13 s12 hs12 => ?_)
          obtain ⟨zs12, -⟩ := pL hs12
          subst zs12
          refine wa_goto o_X10_keepBest_51 (by decide) ?_
          refine wa_last ly_74 (by ((try simp only [vp_in_iff, Int32.lt_iff_toInt_lt, Int32.le_iff_toInt_le, ← Int32.toInt_inj, Int32.reduceToInt, n_1, n_2, n_8, Int32.toNatClampNeg, Int64.lt_iff_toInt_lt, Int64.le_iff_toInt_le, ← Int64.toInt_inj, Int64.reduceToInt, Int32.toInt_toInt64, lg_cmp_ge, lg_cmp_le, lg_cmp_gt, lg_cmp_lt, lg_cmp_eq, Bool.false_eq_true, Bool.true_eq_false, reduceCtorEq, false_iff, true_iff, iff_true, iff_false, and_true, true_and, and_false, false_and, reduceIte, ite_true, ite_false, eq_self] at *)) <;> omega) (fun s14 hs14 => ?_)
          have Fs14 : Sm 69 75 σ s14 := by rw [hs14]; exact Sm.sl Fs5 _ _ (by decide) (by decide)
          refine wa_iinc (v := (1)) (lv' := fun y15 => [(1, .int y15), (0, .ref 69)]) (by decide) rfl (by decide) (fun _ => rfl) (fun y15 hy15 => ?_)
          have ty15 := i_addT hy15.symm
          clear hy15
          refine wa_goto o_X10_keepBest_18 (by decide) ?_
          refine wa_pick [1, 0] rfl ?_
          exact ih6 _ (by ((try simp only [vp_in_iff, Int32.lt_iff_toInt_lt, Int32.le_iff_toInt_le, ← Int32.toInt_inj, Int32.reduceToInt, n_1, n_2, n_8, Int32.toNatClampNeg, Int64.lt_iff_toInt_lt, Int64.le_iff_toInt_le, ← Int64.toInt_inj, Int64.reduceToInt, Int32.toInt_toInt64, lg_cmp_ge, lg_cmp_le, lg_cmp_gt, lg_cmp_lt, lg_cmp_eq, Bool.false_eq_true, Bool.true_eq_false, reduceCtorEq, false_iff, true_iff, iff_true, iff_false, and_true, true_and, and_false, false_and, reduceIte, ite_true, ite_false, eq_self] at *)) <;> omega) _ _ ⟨Fs14, ((nx_gi_sl hs14).trans (khi7_0)), (by ((try simp only [vp_in_iff, Int32.lt_iff_toInt_lt, Int32.le_iff_toInt_le, ← Int32.toInt_inj, Int32.reduceToInt, n_1, n_2, n_8, Int32.toNatClampNeg, Int64.lt_iff_toInt_lt, Int64.le_iff_toInt_le, ← Int64.toInt_inj, Int64.reduceToInt, Int32.toInt_toInt64, lg_cmp_ge, lg_cmp_le, lg_cmp_gt, lg_cmp_lt, lg_cmp_eq, Bool.false_eq_true, Bool.true_eq_false, reduceCtorEq, false_iff, true_iff, iff_true, iff_false, and_true, true_and, and_false, false_and, reduceIte, ite_true, ite_false, eq_self] at *)) <;> omega), trivial⟩ rfl
  exact hi7 _ _ _ ⟨Fs4, ((nx_gi_sl hs4).trans (nx_gi_sb hs1)), (by ((try simp only [vp_in_iff, Int32.lt_iff_toInt_lt, Int32.le_iff_toInt_le, ← Int32.toInt_inj, Int32.reduceToInt, n_1, n_2, n_8, Int32.toNatClampNeg, Int64.lt_iff_toInt_lt, Int64.le_iff_toInt_le, ← Int64.toInt_inj, Int64.reduceToInt, Int32.toInt_toInt64, lg_cmp_ge, lg_cmp_le, lg_cmp_gt, lg_cmp_lt, lg_cmp_eq, Bool.false_eq_true, Bool.true_eq_false, reduceCtorEq, false_iff, true_iff, iff_true, iff_false, and_true, true_and, and_false, false_and, reduceIte, ite_true, ite_false, eq_self] at *)) <;> omega), trivial⟩ rfl
set_option maxHeartbeats 4000000 in
theorem sp_X10_halve (G : kG9) {d : Nat} (hd : 2 ≤ d) (σ : St) (a0 : Int32) : Ct G M_X10_halve d [.ref 69, .int a0] σ (fun r σ' => ∃ x : Bool, r = some (.int (bI x)) ∧ Sm 69 74 σ σ' ∧ True) := by
  refine wa_start (by decide) rfl (Nat.le_of_ble_eq_true rfl) (lv := [(0, .ref 69), (1, .int a0)]) rfl o_X10_halve_0 rfl ?_
  have ua0 := Int32.toInt_lt a0
  have wa0 := Int32.le_toInt a0
  refine wa_aload_n (i := 0) rfl rfl ?_
  refine wa_getr ck_10 fl_10_28 ly_69 rf_69_0 ?_
  refine wa_iload_n (i := 1) rfl rfl ?_
  refine wa_Vl (d9 := d - 1) [.int _] [] (sp_X9_down G (d := d - 1) (by omega) σ _) (rfl) rfl rfl (zr (by omega)) mk_X9_down ly_60 ml_10_102 (Nat.le_of_ble_eq_true rfl) (fun x2 s1 hs1 => ?_)
  obtain ⟨zs1, -⟩ := pL hs1
  subst zs1
  refine wa_lstore_nD (lv' := [(2, .long x2), (0, .ref 69), (1, .int a0)]) (i := 2) rfl (by decide) rfl ?_
  refine wa_lload_n (i := 2) rfl rfl ?_
  refine wa_Si (d9 := d - 1) [.long _] [] (sp_X9_isLimit G (d := d - 1) (by omega) σ _) (rfl) rfl rfl (zr (by omega)) mk_X9_isLimit ml_10_106 (Nat.le_of_ble_eq_true rfl) (fun x4 s3 hs3 => ?_)
  obtain ⟨bx4, ex4, zs3, -⟩ := pB hs3
  subst ex4
  subst zs3
  refine wa_if_eq o_X10_halve_25 (by decide) (fun h5 => ?_) (fun h5 => ?_)
  · replace h5 := bI_f (b := bx4) (rfl) h5
    refine wa_iconst (v := 0) (by decide) ?_
    refine wa_zreturn false (rfl) rfl rfl ?_
    exact ⟨_, rfl, (Sm.rf 69 74 σ), trivial⟩
  · replace h5 := bI_t (b := bx4) (rfl) h5
    refine wa_lload_n (i := 2) rfl rfl ?_
    refine wa_lconst (v := 1) (by decide) ?_
    refine wa_ladd ?_
    refine wa_topl (fun v6 hv6 => ?_)
    clear hv6
    refine wa_Si (d9 := d - 1) [.long _] [] (sp_X9_isLimit G (d := d - 1) (by omega) σ _) (rfl) rfl rfl (zr (by omega)) mk_X9_isLimit ml_10_106 (Nat.le_of_ble_eq_true rfl) (fun x8 s7 hs7 => ?_)
    obtain ⟨bx8, ex8, zs7, -⟩ := pB hs7
    subst ex8
    subst zs7
    refine wa_if_ne o_X10_halve_27 (by decide) (fun h9 => ?_) (fun h9 => ?_)
    · replace h9 := bI_t (b := bx8) (rfl) h9
      refine wa_aload_n (i := 0) rfl rfl ?_
      refine wa_aload_n (i := 0) rfl rfl ?_
      refine wa_getr ck_10 fl_10_28 ly_69 rf_69_0 ?_
      refine wa_geti ck_9 fl_10_59 ly_60 ?_
      refine wa_iload_n (i := 1) rfl rfl ?_
      refine wa_iconst (v := (-1)) (by decide) ?_
      refine wa_lload_n (i := 2) rfl rfl ?_
      refine wa_lconst (v := 1) (by decide) ?_
      refine wa_ladd ?_
      refine wa_topl (fun v10 hv10 => ?_)
      clear hv10
      refine wa_lneg ?_
      refine wa_topl (fun v11 hv11 => ?_)
      clear hv11
      refine wa_Vv (d9 := d - 1) [.int _, .int _, .int _, .long _] [] (sp_X10_lay G (d := d - 1) (by omega) σ _ _ _ _) (rfl) rfl rfl (zr (by omega)) mk_X10_lay ly_69 ml_10_64 (Nat.le_of_ble_eq_true rfl) (fun s12 hs12 => ?_)
      obtain ⟨fs12, -⟩ := hs12
      have Fs12 := Sm.tr (Sm.rf 69 74 σ) (Sm.wd fs12 (lo' := 69) (hi' := 74) (by decide) (by decide))
      refine wa_aload_n (i := 0) rfl rfl ?_
      refine wa_aload_n (i := 0) rfl rfl ?_
      refine wa_getr ck_10 fl_10_28 ly_69 rf_69_0 ?_
      refine wa_geti ck_9 fl_10_59 ly_60 ?_
      refine wa_rw (Sm.gi fs12 11 (Or.inl (by decide))) ?_
      refine wa_iload_n (i := 1) rfl rfl ?_
      refine wa_iconst (v := 1) (by decide) ?_
      refine wa_lload_n (i := 2) rfl rfl ?_
      refine wa_Vv (d9 := d - 1) [.int _, .int _, .int _, .long _] [] (sp_X10_lay G (d := d - 1) (by omega) s12 _ _ _ _) (rfl) rfl rfl (zr (by omega)) mk_X10_lay ly_69 ml_10_64 (Nat.le_of_ble_eq_true rfl) (fun s14 hs14 => ?_)
      obtain ⟨fs14, -⟩ := hs14
      have Fs14 := Sm.tr Fs12 (Sm.wd fs14 (lo' := 69) (hi' := 74) (by decide) (by decide))
      refine wa_iconst (v := 1) (by decide) ?_
      refine wa_zreturn true (rfl) rfl rfl ?_
      exact ⟨_, rfl, Fs14, trivial⟩
    · replace h9 := bI_f (b := bx8) (rfl) h9
      refine wa_iconst (v := 0) (by decide) ?_
      refine wa_zreturn false (rfl) rfl rfl ?_
      exact ⟨_, rfl, (Sm.rf 69 74 σ), trivial⟩
set_option maxHeartbeats 4000000 in
theorem sp_X10_look (G : kG9) {d : Nat} (hd : 5 ≤ d) (σ : St) (a0 : Int32) (r1 : 0 ≤ (gi σ 60 12).toInt ∧ (gi σ 60 12).toInt ≤ 4) : Ct G M_X10_look d [.ref 69, .int a0] σ (fun r σ' => ∃ x : Bool, r = some (.int (bI x)) ∧ Sm 60 75 σ σ' ∧ (0 ≤ (gi σ' 60 12).toInt ∧ (gi σ' 60 12).toInt ≤ 4) ∧ True) := by
  refine wa_start (by decide) rfl (Nat.le_of_ble_eq_true rfl) (lv := [(0, .ref 69), (1, .int a0)]) rfl o_X10_look_0 rfl ?_
  have ua0 := Int32.toInt_lt a0
  have wa0 := Int32.le_toInt a0
  refine wa_iconst (v := 0) (by decide) ?_
  refine wa_istore_nD (lv' := [(2, .int 0), (0, .ref 69), (1, .int a0)]) (i := 2) rfl (by decide) rfl ?_
  refine wa_pick [1, 2, 0] rfl ?_
  have hi3 : ∀ (n9_2 : Nat) (l2 : Int32) (s1 : St), ((Sm 60 75 σ s1) ∧ (0 ≤ l2.toInt) ∧ (0 ≤ (gi s1 60 12).toInt ∧ (gi s1 60 12).toInt ≤ 4) ∧ (True)) → (2147483647 - l2.toInt).toNat = n9_2 → WA G M_X10_look (ZM G M_X10_look d (fun r σ' => ∃ x : Bool, r = some (.int (bI x)) ∧ Sm 60 75 σ σ' ∧ (0 ≤ (gi σ' 60 12).toInt ∧ (gi σ' 60 12).toInt ≤ 4) ∧ True)) B_X10_look_2 [(0, .ref 69), (1, .int a0), (2, .int l2)] [] s1 := by
    intro n9_2
    induction n9_2 using Nat.strongRecOn with
    | _ n9_2 ih2 =>
      intro l2 s1 i9 m9_2
      obtain ⟨Fs1, jhi3_0, jhi3_1, -⟩ := i9
      have ul2 := Int32.toInt_lt l2
      have wl2 := Int32.le_toInt l2
      refine wa_iload_n (i := 2) rfl rfl ?_
      refine wa_iconst (v := 3) (by decide) ?_
      refine wa_icmp_gt o_X10_look_121 (by decide) (fun h4 => ?_) (fun h4 => ?_)
      · refine wa_iconst (v := 1) (by decide) ?_
        refine wa_zreturn true (rfl) rfl rfl ?_
        exact ⟨_, rfl, Fs1, (by first | assumption | (((try simp only [vp_in_iff, Int32.lt_iff_toInt_lt, Int32.le_iff_toInt_le, ← Int32.toInt_inj, Int32.reduceToInt, n_1, n_2, n_8, Int32.toNatClampNeg, Int64.lt_iff_toInt_lt, Int64.le_iff_toInt_le, ← Int64.toInt_inj, Int64.reduceToInt, Int32.toInt_toInt64, lg_cmp_ge, lg_cmp_le, lg_cmp_gt, lg_cmp_lt, lg_cmp_eq, Bool.false_eq_true, Bool.true_eq_false, reduceCtorEq, false_iff, true_iff, iff_true, iff_false, and_true, true_and, and_false, false_and, reduceIte, ite_true, ite_false, eq_self] at *)) <;> omega)), trivial⟩
      · refine wa_aload_n (i := 0) rfl rfl ?_
        refine wa_getr ck_10 fl_10_28 ly_69 rf_69_0 ?_
        refine wa_Vi (d9 := d - 1) [] [] (sp_X9_solve G (d := d - 1) (by omega) s1  (by first | assumption | exact Or.inl rfl | exact Or.inr rfl | (((try simp only [vp_in_iff, Int32.lt_iff_toInt_lt, Int32.le_iff_toInt_le, ← Int32.toInt_inj, Int32.reduceToInt, n_1, n_2, n_8, Int32.toNatClampNeg, Int64.lt_iff_toInt_lt, Int64.le_iff_toInt_le, ← Int64.toInt_inj, Int64.reduceToInt, Int32.toInt_toInt64, lg_cmp_ge, lg_cmp_le, lg_cmp_gt, lg_cmp_lt, lg_cmp_eq, Bool.false_eq_true, Bool.true_eq_false, reduceCtorEq, false_iff, true_iff, iff_true, iff_false, and_true, true_and, and_false, false_and, reduceIte, ite_true, ite_false, eq_self] at *)) <;> omega))) (rfl) rfl rfl (zr (by omega)) mk_X9_solve ly_60 ml_10_79 (Nat.le_of_ble_eq_true rfl) (fun x6 s5 hs5 => ?_)
        obtain ⟨fs5, cx6_1, -⟩ := pI hs5
        have Fs5 := Sm.tr Fs1 (Sm.wd fs5 (lo' := 60) (hi' := 75) (by decide) (by decide))
        refine wa_istore_nD (lv' := [(3, .int x6), (0, .ref 69), (1, .int a0), (2, .int l2)]) (i := 3) rfl (by decide) rfl ?_
        refine wa_iload_n (i := 3) rfl rfl ?_
        refine wa_iconst (v := 1) (by decide) ?_
        refine wa_icmp_eq o_X10_look_30 (by decide) (fun h7 => ?_) (fun h7 => ?_)
        · refine wa_aload_n (i := 0) rfl rfl ?_
          refine wa_getz ck_10 fl_10_47 ly_69 ?_
          refine wa_rw (congrArg bI (Sm.gb fs5 10 (Or.inr (by decide)))) ?_
          refine wa_if_eq o_X10_look_54 (by decide) (fun h8 => ?_) (fun h8 => ?_)
          · replace h8 := bI_f (b := (gb s1 69 10)) (rfl) h8
            refine wa_aload_n (i := 0) rfl rfl ?_
            refine wa_getr ck_10 fl_10_28 ly_69 rf_69_0 ?_
            refine wa_Vi (d9 := d - 1) [] [] (sp_X9_firstBroken G (d := d - 1) (by omega) s5  (by first | assumption | exact Or.inl rfl | exact Or.inr rfl | (((try simp only [vp_in_iff, Int32.lt_iff_toInt_lt, Int32.le_iff_toInt_le, ← Int32.toInt_inj, Int32.reduceToInt, n_1, n_2, n_8, Int32.toNatClampNeg, Int64.lt_iff_toInt_lt, Int64.le_iff_toInt_le, ← Int64.toInt_inj, Int64.reduceToInt, Int32.toInt_toInt64, lg_cmp_ge, lg_cmp_le, lg_cmp_gt, lg_cmp_lt, lg_cmp_eq, Bool.false_eq_true, Bool.true_eq_false, reduceCtorEq, false_iff, true_iff, iff_true, iff_false, and_true, true_and, and_false, false_and, reduceIte, ite_true, ite_false, eq_self] at *)) <;> omega))) (rfl) rfl rfl (zr (by omega)) mk_X9_firstBroken ly_60 ml_10_87 (Nat.le_of_ble_eq_true rfl) (fun x10 s9 hs9 => ?_)
            obtain ⟨zs9, -⟩ := pI hs9
            subst zs9
            refine wa_istoreD (lv' := [(4, .int x10), (3, .int x6), (0, .ref 69), (1, .int a0), (2, .int l2)]) (by decide) rfl ?_
            refine wa_iload rfl ?_
            refine wa_iconst (v := (-1)) (by decide) ?_
            refine wa_icmp_ne o_X10_look_75 (by decide) (fun h11 => ?_) (fun h11 => ?_)
            · refine wa_iload_n (i := 1) rfl rfl ?_
              refine wa_if_eq o_X10_look_84 (by decide) (fun h12 => ?_) (fun h12 => ?_)
              · refine wa_aload_n (i := 0) rfl rfl ?_
                refine wa_iload rfl ?_
                refine wa_Vi (d9 := d - 1) [.int _] [] (sp_X10_halve G (d := d - 1) (by omega) s5 _) (rfl) rfl rfl (zr (by omega)) mk_X10_halve ly_69 ml_10_93 (Nat.le_of_ble_eq_true rfl) (fun x14 s13 hs13 => ?_)
                obtain ⟨bx14, ex14, fs13, -⟩ := pB hs13
                subst ex14
                have Fs13 := Sm.tr Fs5 (Sm.wd fs13 (lo' := 60) (hi' := 75) (by decide) (by decide))
                refine wa_zreturn bx14 (rfl) rfl rfl ?_
                exact ⟨_, rfl, Fs13, (by rw [Sm.gi fs13 12 (Or.inl (by decide))]; first | assumption | (((try simp only [vp_in_iff, Int32.lt_iff_toInt_lt, Int32.le_iff_toInt_le, ← Int32.toInt_inj, Int32.reduceToInt, n_1, n_2, n_8, Int32.toNatClampNeg, Int64.lt_iff_toInt_lt, Int64.le_iff_toInt_le, ← Int64.toInt_inj, Int64.reduceToInt, Int32.toInt_toInt64, lg_cmp_ge, lg_cmp_le, lg_cmp_gt, lg_cmp_lt, lg_cmp_eq, Bool.false_eq_true, Bool.true_eq_false, reduceCtorEq, false_iff, true_iff, iff_true, iff_false, and_true, true_and, and_false, false_and, reduceIte, ite_true, ite_false, eq_self] at *)) <;> omega)), trivial⟩
              · refine wa_iload_n (i := 2) rfl rfl ?_
                refine wa_iconst (v := 3) (by decide) ?_
                refine wa_icmp_ne o_X10_look_91 (by decide) (fun h15 => ?_) (fun h15 => ?_)
                · refine wa_aload_n (i := 0) rfl rfl ?_
                  refine wa_getr ck_10 fl_10_28 ly_69 rf_69_0 ?_
                  refine wa_iload rfl ?_
                  refine wa_Vi (d9 := d - 1) [.int _] [] (sp_X9_addCut G (d := d - 1) (by omega) s5 _ (by first | assumption | exact Or.inl rfl | exact Or.inr rfl | (((try simp only [vp_in_iff, Int32.lt_iff_toInt_lt, Int32.le_iff_toInt_le, ← Int32.toInt_inj, Int32.reduceToInt, n_1, n_2, n_8, Int32.toNatClampNeg, Int64.lt_iff_toInt_lt, Int64.le_iff_toInt_le, ← Int64.toInt_inj, Int64.reduceToInt, Int32.toInt_toInt64, lg_cmp_ge, lg_cmp_le, lg_cmp_gt, lg_cmp_lt, lg_cmp_eq, Bool.false_eq_true, Bool.true_eq_false, reduceCtorEq, false_iff, true_iff, iff_true, iff_false, and_true, true_and, and_false, false_and, reduceIte, ite_true, ite_false, eq_self] at *)) <;> omega))) (rfl) rfl rfl (zr (by omega)) mk_X9_addCut ly_60 ml_10_96 (Nat.le_of_ble_eq_true rfl) (fun x17 s16 hs16 => ?_)
                  obtain ⟨bx17, ex17, fs16, cx17_1, -⟩ := pB hs16
                  subst ex17
                  have Fs16 := Sm.tr Fs5 (Sm.wd fs16 (lo' := 60) (hi' := 75) (by decide) (by decide))
                  refine wa_if_ne o_X10_look_105 (by decide) (fun h18 => ?_) (fun h18 => ?_)
                  · replace h18 := bI_t (b := bx17) (rfl) h18
                    refine wa_aload_n (i := 0) rfl rfl ?_
                    refine wa_dup rfl ?_
                    refine wa_geti ck_10 fl_10_40 ly_69 ?_
                    refine wa_rw ((Sm.gi fs16 8 (Or.inr (by decide))).trans (Sm.gi fs5 8 (Or.inr (by decide)))) ?_
                    refine wa_iconst (v := 1) (by decide) ?_
                    refine wa_iadd ?_
                    refine wa_top (fun v19 hv19 => ?_)
                    have tv19 := i_addT hv19
                    clear hv19
                    refine wa_puti ck_10 fl_10_40 ly_69 (fun s20 hs20 => ?_)
                    have Fs20 : Sm 60 75 σ s20 := by rw [hs20]; exact Sm.si Fs16 _ _ (by decide) (by decide)
                    refine wa_iinc (v := (1)) (lv' := fun y21 => [(2, .int y21), (4, .int x10), (3, .int x6), (0, .ref 69), (1, .int a0)]) (by decide) rfl (by decide) (fun _ => rfl) (fun y21 hy21 => ?_)
                    have ty21 := i_addT hy21.symm
                    clear hy21
                    refine wa_goto o_X10_look_2 (by decide) ?_
                    refine wa_pick [3, 4, 0] rfl ?_
                    exact ih2 _ (by ((try simp only [vp_in_iff, Int32.lt_iff_toInt_lt, Int32.le_iff_toInt_le, ← Int32.toInt_inj, Int32.reduceToInt, n_1, n_2, n_8, Int32.toNatClampNeg, Int64.lt_iff_toInt_lt, Int64.le_iff_toInt_le, ← Int64.toInt_inj, Int64.reduceToInt, Int32.toInt_toInt64, lg_cmp_ge, lg_cmp_le, lg_cmp_gt, lg_cmp_lt, lg_cmp_eq, Bool.false_eq_true, Bool.true_eq_false, reduceCtorEq, false_iff, true_iff, iff_true, iff_false, and_true, true_and, and_false, false_and, reduceIte, ite_true, ite_false, eq_self] at *)) <;> omega) _ _ ⟨Fs20, (by ((try simp only [vp_in_iff, Int32.lt_iff_toInt_lt, Int32.le_iff_toInt_le, ← Int32.toInt_inj, Int32.reduceToInt, n_1, n_2, n_8, Int32.toNatClampNeg, Int64.lt_iff_toInt_lt, Int64.le_iff_toInt_le, ← Int64.toInt_inj, Int64.reduceToInt, Int32.toInt_toInt64, lg_cmp_ge, lg_cmp_le, lg_cmp_gt, lg_cmp_lt, lg_cmp_eq, Bool.false_eq_true, Bool.true_eq_false, reduceCtorEq, false_iff, true_iff, iff_true, iff_false, and_true, true_and, and_false, false_and, reduceIte, ite_true, ite_false, eq_self] at *)) <;> omega), (by rw [nxq_gi_si hs20 (by decide)]; first | assumption | (((try simp only [vp_in_iff, Int32.lt_iff_toInt_lt, Int32.le_iff_toInt_le, ← Int32.toInt_inj, Int32.reduceToInt, n_1, n_2, n_8, Int32.toNatClampNeg, Int64.lt_iff_toInt_lt, Int64.le_iff_toInt_le, ← Int64.toInt_inj, Int64.reduceToInt, Int32.toInt_toInt64, lg_cmp_ge, lg_cmp_le, lg_cmp_gt, lg_cmp_lt, lg_cmp_eq, Bool.false_eq_true, Bool.true_eq_false, reduceCtorEq, false_iff, true_iff, iff_true, iff_false, and_true, true_and, and_false, false_and, reduceIte, ite_true, ite_false, eq_self] at *)) <;> omega)), trivial⟩ rfl
                  · replace h18 := bI_f (b := bx17) (rfl) h18
                    refine wa_iconst (v := 0) (by decide) ?_
                    refine wa_zreturn false (rfl) rfl rfl ?_
                    exact ⟨_, rfl, Fs16, (by first | assumption | (((try simp only [vp_in_iff, Int32.lt_iff_toInt_lt, Int32.le_iff_toInt_le, ← Int32.toInt_inj, Int32.reduceToInt, n_1, n_2, n_8, Int32.toNatClampNeg, Int64.lt_iff_toInt_lt, Int64.le_iff_toInt_le, ← Int64.toInt_inj, Int64.reduceToInt, Int32.toInt_toInt64, lg_cmp_ge, lg_cmp_le, lg_cmp_gt, lg_cmp_lt, lg_cmp_eq, Bool.false_eq_true, Bool.true_eq_false, reduceCtorEq, false_iff, true_iff, iff_true, iff_false, and_true, true_and, and_false, false_and, reduceIte, ite_true, ite_false, eq_self] at *)) <;> omega)), trivial⟩
                · refine wa_aload_n (i := 0) rfl rfl ?_
                  refine wa_iload rfl ?_
                  refine wa_Vi (d9 := d - 1) [.int _] [] (sp_X10_halve G (d := d - 1) (by omega) s5 _) (rfl) rfl rfl (zr (by omega)) mk_X10_halve ly_69 ml_10_93 (Nat.le_of_ble_eq_true rfl) (fun x23 s22 hs22 => ?_)
                  obtain ⟨bx23, ex23, fs22, -⟩ := pB hs22
                  subst ex23
                  have Fs22 := Sm.tr Fs5 (Sm.wd fs22 (lo' := 60) (hi' := 75) (by decide) (by decide))
                  refine wa_zreturn bx23 (rfl) rfl rfl ?_
                  exact ⟨_, rfl, Fs22, (by rw [Sm.gi fs22 12 (Or.inl (by decide))]; first | assumption | (((try simp only [vp_in_iff, Int32.lt_iff_toInt_lt, Int32.le_iff_toInt_le, ← Int32.toInt_inj, Int32.reduceToInt, n_1, n_2, n_8, Int32.toNatClampNeg, Int64.lt_iff_toInt_lt, Int64.le_iff_toInt_le, ← Int64.toInt_inj, Int64.reduceToInt, Int32.toInt_toInt64, lg_cmp_ge, lg_cmp_le, lg_cmp_gt, lg_cmp_lt, lg_cmp_eq, Bool.false_eq_true, Bool.true_eq_false, reduceCtorEq, false_iff, true_iff, iff_true, iff_false, and_true, true_and, and_false, false_and, reduceIte, ite_true, ite_false, eq_self] at *)) <;> omega)), trivial⟩
            · refine wa_aload_n (i := 0) rfl rfl ?_
              refine wa_Vv (d9 := d - 1) [] [] (sp_X10_keepBest G (d := d - 1) (by omega) s5  (by first | assumption | exact Or.inl rfl | exact Or.inr rfl | (((try simp only [vp_in_iff, Int32.lt_iff_toInt_lt, Int32.le_iff_toInt_le, ← Int32.toInt_inj, Int32.reduceToInt, n_1, n_2, n_8, Int32.toNatClampNeg, Int64.lt_iff_toInt_lt, Int64.le_iff_toInt_le, ← Int64.toInt_inj, Int64.reduceToInt, Int32.toInt_toInt64, lg_cmp_ge, lg_cmp_le, lg_cmp_gt, lg_cmp_lt, lg_cmp_eq, Bool.false_eq_true, Bool.true_eq_false, reduceCtorEq, false_iff, true_iff, iff_true, iff_false, and_true, true_and, and_false, false_and, reduceIte, ite_true, ite_false, eq_self] at *)) <;> omega))) (rfl) rfl rfl (zr (by omega)) mk_X10_keepBest ly_69 ml_10_90 (Nat.le_of_ble_eq_true rfl) (fun s24 hs24 => ?_)
              obtain ⟨fs24, -⟩ := hs24
              have Fs24 := Sm.tr Fs5 (Sm.wd fs24 (lo' := 60) (hi' := 75) (by decide) (by decide))
              refine wa_iconst (v := 1) (by decide) ?_
              refine wa_zreturn true (rfl) rfl rfl ?_
              exact ⟨_, rfl, Fs24, (by rw [Sm.gi fs24 12 (Or.inl (by decide))]; first | assumption | (((try simp only [vp_in_iff, Int32.lt_iff_toInt_lt, Int32.le_iff_toInt_le, ← Int32.toInt_inj, Int32.reduceToInt, n_1, n_2, n_8, Int32.toNatClampNeg, Int64.lt_iff_toInt_lt, Int64.le_iff_toInt_le, ← Int64.toInt_inj, Int64.reduceToInt, Int32.toInt_toInt64, lg_cmp_ge, lg_cmp_le, lg_cmp_gt, lg_cmp_lt, lg_cmp_eq, Bool.false_eq_true, Bool.true_eq_false, reduceCtorEq, false_iff, true_iff, iff_true, iff_false, and_true, true_and, and_false, false_and, reduceIte, ite_true, ite_false, eq_self] at *)) <;> omega)), trivial⟩
          · replace h8 := bI_t (b := (gb s1 69 10)) (rfl) h8
            refine wa_aload_n (i := 0) rfl rfl ?_
            refine wa_getr ck_10 fl_10_28 ly_69 rf_69_0 ?_
            refine wa_Vl (d9 := d - 1) [] [] (sp_X9_goalDown G (d := d - 1) (by omega) s5  (by first | assumption | exact Or.inl rfl | exact Or.inr rfl | (((try simp only [vp_in_iff, Int32.lt_iff_toInt_lt, Int32.le_iff_toInt_le, ← Int32.toInt_inj, Int32.reduceToInt, n_1, n_2, n_8, Int32.toNatClampNeg, Int64.lt_iff_toInt_lt, Int64.le_iff_toInt_le, ← Int64.toInt_inj, Int64.reduceToInt, Int32.toInt_toInt64, lg_cmp_ge, lg_cmp_le, lg_cmp_gt, lg_cmp_lt, lg_cmp_eq, Bool.false_eq_true, Bool.true_eq_false, reduceCtorEq, false_iff, true_iff, iff_true, iff_false, and_true, true_and, and_false, false_and, reduceIte, ite_true, ite_false, eq_self] at *)) <;> omega))) (rfl) rfl rfl (zr (by omega)) mk_X9_goalDown ly_60 ml_10_83 (Nat.le_of_ble_eq_true rfl) (fun x27 s26 hs26 => ?_)
            obtain ⟨zs26, -⟩ := pL hs26
            subst zs26
            refine wa_aload_n (i := 0) rfl rfl ?_
            refine wa_getl ck_10 fl_10_43 ly_69 ?_
            refine wa_rwl (Sm.gl fs5 9 (Or.inr (by decide))) ?_
            refine wa_lcmp ?_
            refine wa_top (fun v28 hv28 => ?_)
            have tv28 := i_cmpT hv28
            clear hv28
            refine wa_if_gt o_X10_look_54 (by decide) (fun h29 => ?_) (fun h29 => ?_)
            · refine wa_aload_n (i := 0) rfl rfl ?_
              refine wa_getr ck_10 fl_10_28 ly_69 rf_69_0 ?_
              refine wa_Vi (d9 := d - 1) [] [] (sp_X9_firstBroken G (d := d - 1) (by omega) s5  (by first | assumption | exact Or.inl rfl | exact Or.inr rfl | (((try simp only [vp_in_iff, Int32.lt_iff_toInt_lt, Int32.le_iff_toInt_le, ← Int32.toInt_inj, Int32.reduceToInt, n_1, n_2, n_8, Int32.toNatClampNeg, Int64.lt_iff_toInt_lt, Int64.le_iff_toInt_le, ← Int64.toInt_inj, Int64.reduceToInt, Int32.toInt_toInt64, lg_cmp_ge, lg_cmp_le, lg_cmp_gt, lg_cmp_lt, lg_cmp_eq, Bool.false_eq_true, Bool.true_eq_false, reduceCtorEq, false_iff, true_iff, iff_true, iff_false, and_true, true_and, and_false, false_and, reduceIte, ite_true, ite_false, eq_self] at *)) <;> omega))) (rfl) rfl rfl (zr (by omega)) mk_X9_firstBroken ly_60 ml_10_87 (Nat.le_of_ble_eq_true rfl) (fun x31 s30 hs30 => ?_)
              obtain ⟨zs30, -⟩ := pI hs30
              subst zs30
              refine wa_istoreD (lv' := [(4, .int x31), (3, .int x6), (0, .ref 69), (1, .int a0), (2, .int l2)]) (by decide) rfl ?_
              refine wa_iload rfl ?_
              refine wa_iconst (v := (-1)) (by decide) ?_
              refine wa_icmp_ne o_X10_look_75 (by decide) (fun h32 => ?_) (fun h32 => ?_)
              · refine wa_iload_n (i := 1) rfl rfl ?_
                refine wa_if_eq o_X10_look_84 (by decide) (fun h33 => ?_) (fun h33 => ?_)
                · refine wa_aload_n (i := 0) rfl rfl ?_
                  refine wa_iload rfl ?_
                  refine wa_Vi (d9 := d - 1) [.int _] [] (sp_X10_halve G (d := d - 1) (by omega) s5 _) (rfl) rfl rfl (zr (by omega)) mk_X10_halve ly_69 ml_10_93 (Nat.le_of_ble_eq_true rfl) (fun x35 s34 hs34 => ?_)
                  obtain ⟨bx35, ex35, fs34, -⟩ := pB hs34
                  subst ex35
                  have Fs34 := Sm.tr Fs5 (Sm.wd fs34 (lo' := 60) (hi' := 75) (by decide) (by decide))
                  refine wa_zreturn bx35 (rfl) rfl rfl ?_
                  exact ⟨_, rfl, Fs34, (by rw [Sm.gi fs34 12 (Or.inl (by decide))]; first | assumption | (((try simp only [vp_in_iff, Int32.lt_iff_toInt_lt, Int32.le_iff_toInt_le, ← Int32.toInt_inj, Int32.reduceToInt, n_1, n_2, n_8, Int32.toNatClampNeg, Int64.lt_iff_toInt_lt, Int64.le_iff_toInt_le, ← Int64.toInt_inj, Int64.reduceToInt, Int32.toInt_toInt64, lg_cmp_ge, lg_cmp_le, lg_cmp_gt, lg_cmp_lt, lg_cmp_eq, Bool.false_eq_true, Bool.true_eq_false, reduceCtorEq, false_iff, true_iff, iff_true, iff_false, and_true, true_and, and_false, false_and, reduceIte, ite_true, ite_false, eq_self] at *)) <;> omega)), trivial⟩
                · refine wa_iload_n (i := 2) rfl rfl ?_
                  refine wa_iconst (v := 3) (by decide) ?_
                  refine wa_icmp_ne o_X10_look_91 (by decide) (fun h36 => ?_) (fun h36 => ?_)
                  · refine wa_aload_n (i := 0) rfl rfl ?_
                    refine wa_getr ck_10 fl_10_28 ly_69 rf_69_0 ?_
                    refine wa_iload rfl ?_
                    refine wa_Vi (d9 := d - 1) [.int _] [] (sp_X9_addCut G (d := d - 1) (by omega) s5 _ (by first | assumption | exact Or.inl rfl | exact Or.inr rfl | (((try simp only [vp_in_iff, Int32.lt_iff_toInt_lt, Int32.le_iff_toInt_le, ← Int32.toInt_inj, Int32.reduceToInt, n_1, n_2, n_8, Int32.toNatClampNeg, Int64.lt_iff_toInt_lt, Int64.le_iff_toInt_le, ← Int64.toInt_inj, Int64.reduceToInt, Int32.toInt_toInt64, lg_cmp_ge, lg_cmp_le, lg_cmp_gt, lg_cmp_lt, lg_cmp_eq, Bool.false_eq_true, Bool.true_eq_false, reduceCtorEq, false_iff, true_iff, iff_true, iff_false, and_true, true_and, and_false, false_and, reduceIte, ite_true, ite_false, eq_self] at *)) <;> omega))) (rfl) rfl rfl (zr (by omega)) mk_X9_addCut ly_60 ml_10_96 (Nat.le_of_ble_eq_true rfl) (fun x38 s37 hs37 => ?_)
                    obtain ⟨bx38, ex38, fs37, cx38_1, -⟩ := pB hs37
                    subst ex38
                    have Fs37 := Sm.tr Fs5 (Sm.wd fs37 (lo' := 60) (hi' := 75) (by decide) (by decide))
                    refine wa_if_ne o_X10_look_105 (by decide) (fun h39 => ?_) (fun h39 => ?_)
                    · replace h39 := bI_t (b := bx38) (rfl) h39
                      refine wa_aload_n (i := 0) rfl rfl ?_
                      refine wa_dup rfl ?_
                      refine wa_geti ck_10 fl_10_40 ly_69 ?_
                      refine wa_rw ((Sm.gi fs37 8 (Or.inr (by decide))).trans (Sm.gi fs5 8 (Or.inr (by decide)))) ?_
                      refine wa_iconst (v := 1) (by decide) ?_
                      refine wa_iadd ?_
                      refine wa_top (fun v40 hv40 => ?_)
                      have tv40 := i_addT hv40
                      clear hv40
                      refine wa_puti ck_10 fl_10_40 ly_69 (fun s41 hs41 => ?_)
                      have Fs41 : Sm 60 75 σ s41 := by rw [hs41]; exact Sm.si Fs37 _ _ (by decide) (by decide)
                      refine wa_iinc (v := (1)) (lv' := fun y42 => [(2, .int y42), (4, .int x31), (3, .int x6), (0, .ref 69), (1, .int a0)]) (by decide) rfl (by decide) (fun _ => rfl) (fun y42 hy42 => ?_)
                      have ty42 := i_addT hy42.symm
                      clear hy42
                      refine wa_goto o_X10_look_2 (by decide) ?_
                      refine wa_pick [3, 4, 0] rfl ?_
                      exact ih2 _ (by ((try simp only [vp_in_iff, Int32.lt_iff_toInt_lt, Int32.le_iff_toInt_le, ← Int32.toInt_inj, Int32.reduceToInt, n_1, n_2, n_8, Int32.toNatClampNeg, Int64.lt_iff_toInt_lt, Int64.le_iff_toInt_le, ← Int64.toInt_inj, Int64.reduceToInt, Int32.toInt_toInt64, lg_cmp_ge, lg_cmp_le, lg_cmp_gt, lg_cmp_lt, lg_cmp_eq, Bool.false_eq_true, Bool.true_eq_false, reduceCtorEq, false_iff, true_iff, iff_true, iff_false, and_true, true_and, and_false, false_and, reduceIte, ite_true, ite_false, eq_self] at *)) <;> omega) _ _ ⟨Fs41, (by ((try simp only [vp_in_iff, Int32.lt_iff_toInt_lt, Int32.le_iff_toInt_le, ← Int32.toInt_inj, Int32.reduceToInt, n_1, n_2, n_8, Int32.toNatClampNeg, Int64.lt_iff_toInt_lt, Int64.le_iff_toInt_le, ← Int64.toInt_inj, Int64.reduceToInt, Int32.toInt_toInt64, lg_cmp_ge, lg_cmp_le, lg_cmp_gt, lg_cmp_lt, lg_cmp_eq, Bool.false_eq_true, Bool.true_eq_false, reduceCtorEq, false_iff, true_iff, iff_true, iff_false, and_true, true_and, and_false, false_and, reduceIte, ite_true, ite_false, eq_self] at *)) <;> omega), (by rw [nxq_gi_si hs41 (by decide)]; first | assumption | (((try simp only [vp_in_iff, Int32.lt_iff_toInt_lt, Int32.le_iff_toInt_le, ← Int32.toInt_inj, Int32.reduceToInt, n_1, n_2, n_8, Int32.toNatClampNeg, Int64.lt_iff_toInt_lt, Int64.le_iff_toInt_le, ← Int64.toInt_inj, Int64.reduceToInt, Int32.toInt_toInt64, lg_cmp_ge, lg_cmp_le, lg_cmp_gt, lg_cmp_lt, lg_cmp_eq, Bool.false_eq_true, Bool.true_eq_false, reduceCtorEq, false_iff, true_iff, iff_true, iff_false, and_true, true_and, and_false, false_and, reduceIte, ite_true, ite_false, eq_self] at *)) <;> omega)), trivial⟩ rfl
                    · replace h39 := bI_f (b := bx38) (rfl) h39
                      refine wa_iconst (v := 0) (by decide) ?_
                      refine wa_zreturn false (rfl) rfl rfl ?_
                      exact ⟨_, rfl, Fs37, (by first | assumption | (((try simp only [vp_in_iff, Int32.lt_iff_toInt_lt, Int32.le_iff_toInt_le, ← Int32.toInt_inj, Int32.reduceToInt, n_1, n_2, n_8, Int32.toNatClampNeg, Int64.lt_iff_toInt_lt, Int64.le_iff_toInt_le, ← Int64.toInt_inj, Int64.reduceToInt, Int32.toInt_toInt64, lg_cmp_ge, lg_cmp_le, lg_cmp_gt, lg_cmp_lt, lg_cmp_eq, Bool.false_eq_true, Bool.true_eq_false, reduceCtorEq, false_iff, true_iff, iff_true, iff_false, and_true, true_and, and_false, false_and, reduceIte, ite_true, ite_false, eq_self] at *)) <;> omega)), trivial⟩
                  · refine wa_aload_n (i := 0) rfl rfl ?_
                    refine wa_iload rfl ?_
                    refine wa_Vi (d9 := d - 1) [.int _] [] (sp_X10_halve G (d := d - 1) (by omega) s5 _) (rfl) rfl rfl (zr (by omega)) mk_X10_halve ly_69 ml_10_93 (Nat.le_of_ble_eq_true rfl) (fun x44 s43 hs43 => ?_)
                    obtain ⟨bx44, ex44, fs43, -⟩ := pB hs43
                    subst ex44
                    have Fs43 := Sm.tr Fs5 (Sm.wd fs43 (lo' := 60) (hi' := 75) (by decide) (by decide))
                    refine wa_zreturn bx44 (rfl) rfl rfl ?_
                    exact ⟨_, rfl, Fs43, (by rw [Sm.gi fs43 12 (Or.inl (by decide))]; first | assumption | (((try simp only [vp_in_iff, Int32.lt_iff_toInt_lt, Int32.le_iff_toInt_le, ← Int32.toInt_inj, Int32.reduceToInt, n_1, n_2, n_8, Int32.toNatClampNeg, Int64.lt_iff_toInt_lt, Int64.le_iff_toInt_le, ← Int64.toInt_inj, Int64.reduceToInt, Int32.toInt_toInt64, lg_cmp_ge, lg_cmp_le, lg_cmp_gt, lg_cmp_lt, lg_cmp_eq, Bool.false_eq_true, Bool.true_eq_false, reduceCtorEq, false_iff, true_iff, iff_true, iff_false, and_true, true_and, and_false, false_and, reduceIte, ite_true, ite_false, eq_self] at *)) <;> omega)), trivial⟩
              · refine wa_aload_n (i := 0) rfl rfl ?_
                refine wa_Vv (d9 := d - 1) [] [] (sp_X10_keepBest G (d := d - 1) (by omega) s5  (by first | assumption | exact Or.inl rfl | exact Or.inr rfl | (((try simp only [vp_in_iff, Int32.lt_iff_toInt_lt, Int32.le_iff_toInt_le, ← Int32.toInt_inj, Int32.reduceToInt, n_1, n_2, n_8, Int32.toNatClampNeg, Int64.lt_iff_toInt_lt, Int64.le_iff_toInt_le, ← Int64.toInt_inj, Int64.reduceToInt, Int32.toInt_toInt64, lg_cmp_ge, lg_cmp_le, lg_cmp_gt, lg_cmp_lt, lg_cmp_eq, Bool.false_eq_true, Bool.true_eq_false, reduceCtorEq, false_iff, true_iff, iff_true, iff_false, and_true, true_and, and_false, false_and, reduceIte, ite_true, ite_false, eq_self] at *)) <;> omega))) (rfl) rfl rfl (zr (by omega)) mk_X10_keepBest ly_69 ml_10_90 (Nat.le_of_ble_eq_true rfl) (fun s45 hs45 => ?_)
                obtain ⟨fs45, -⟩ := hs45
                have Fs45 := Sm.tr Fs5 (Sm.wd fs45 (lo' := 60) (hi' := 75) (by decide) (by decide))
                refine wa_iconst (v := 1) (by decide) ?_
                refine wa_zreturn true (rfl) rfl rfl ?_
                exact ⟨_, rfl, Fs45, (by rw [Sm.gi fs45 12 (Or.inl (by decide))]; first | assumption | (((try simp only [vp_in_iff, Int32.lt_iff_toInt_lt, Int32.le_iff_toInt_le, ← Int32.toInt_inj, Int32.reduceToInt, n_1, n_2, n_8, Int32.toNatClampNeg, Int64.lt_iff_toInt_lt, Int64.le_iff_toInt_le, ← Int64.toInt_inj, Int64.reduceToInt, Int32.toInt_toInt64, lg_cmp_ge, lg_cmp_le, lg_cmp_gt, lg_cmp_lt, lg_cmp_eq, Bool.false_eq_true, Bool.true_eq_false, reduceCtorEq, false_iff, true_iff, iff_true, iff_false, and_true, true_and, and_false, false_and, reduceIte, ite_true, ite_false, eq_self] at *)) <;> omega)), trivial⟩
            · refine wa_iconst (v := 1) (by decide) ?_
              refine wa_zreturn true (rfl) rfl rfl ?_
              exact ⟨_, rfl, Fs5, (by first | assumption | (((try simp only [vp_in_iff, Int32.lt_iff_toInt_lt, Int32.le_iff_toInt_le, ← Int32.toInt_inj, Int32.reduceToInt, n_1, n_2, n_8, Int32.toNatClampNeg, Int64.lt_iff_toInt_lt, Int64.le_iff_toInt_le, ← Int64.toInt_inj, Int64.reduceToInt, Int32.toInt_toInt64, lg_cmp_ge, lg_cmp_le, lg_cmp_gt, lg_cmp_lt, lg_cmp_eq, Bool.false_eq_true, Bool.true_eq_false, reduceCtorEq, false_iff, true_iff, iff_true, iff_false, and_true, true_and, and_false, false_and, reduceIte, ite_true, ite_false, eq_self] at *)) <;> omega)), trivial⟩
        · refine wa_iload_n (i := 3) rfl rfl ?_
          refine wa_if_ne o_X10_look_28 (by decide) (fun h47 => ?_) (fun h47 => ?_)
          · refine wa_iconst (v := 0) (by decide) ?_
            refine wa_zreturn false (rfl) rfl rfl ?_
            exact ⟨_, rfl, Fs5, (by first | assumption | (((try simp only [vp_in_iff, Int32.lt_iff_toInt_lt, Int32.le_iff_toInt_le, ← Int32.toInt_inj, Int32.reduceToInt, n_1, n_2, n_8, Int32.toNatClampNeg, Int64.lt_iff_toInt_lt, Int64.le_iff_toInt_le, ← Int64.toInt_inj, Int64.reduceToInt, Int32.toInt_toInt64, lg_cmp_ge, lg_cmp_le, lg_cmp_gt, lg_cmp_lt, lg_cmp_eq, Bool.false_eq_true, Bool.true_eq_false, reduceCtorEq, false_iff, true_iff, iff_true, iff_false, and_true, true_and, and_false, false_and, reduceIte, ite_true, ite_false, eq_self] at *)) <;> omega)), trivial⟩
          · refine wa_iconst (v := 1) (by decide) ?_
            refine wa_goto o_X10_look_29 (by decide) ?_
            refine wa_zreturn true (rfl) rfl rfl ?_
            exact ⟨_, rfl, Fs5, (by first | assumption | (((try simp only [vp_in_iff, Int32.lt_iff_toInt_lt, Int32.le_iff_toInt_le, ← Int32.toInt_inj, Int32.reduceToInt, n_1, n_2, n_8, Int32.toNatClampNeg, Int64.lt_iff_toInt_lt, Int64.le_iff_toInt_le, ← Int64.toInt_inj, Int64.reduceToInt, Int32.toInt_toInt64, lg_cmp_ge, lg_cmp_le, lg_cmp_gt, lg_cmp_lt, lg_cmp_eq, Bool.false_eq_true, Bool.true_eq_false, reduceCtorEq, false_iff, true_iff, iff_true, iff_false, and_true, true_and, and_false, false_and, reduceIte, ite_true, ite_false, eq_self] at *)) <;> omega)), trivial⟩
  exact hi3 _ _ _ ⟨(Sm.rf 60 75 σ), (by ((try simp only [vp_in_iff, Int32.lt_iff_toInt_lt, Int32.le_iff_toInt_le, ← Int32.toInt_inj, Int32.reduceToInt, n_1, n_2, n_8, Int32.toNatClampNeg, Int64.lt_iff_toInt_lt, Int64.le_iff_toInt_le, ← Int64.toInt_inj, Int64.reduceToInt, Int32.toInt_toInt64, lg_cmp_ge, lg_cmp_le, lg_cmp_gt, lg_cmp_lt, lg_cmp_eq, Bool.false_eq_true, Bool.true_eq_false, reduceCtorEq, false_iff, true_iff, iff_true, iff_false, and_true, true_and, and_false, false_and, reduceIte, ite_true, ite_false, eq_self] at *)) <;> omega), (by first | assumption | (((try simp only [vp_in_iff, Int32.lt_iff_toInt_lt, Int32.le_iff_toInt_le, ← Int32.toInt_inj, Int32.reduceToInt, n_1, n_2, n_8, Int32.toNatClampNeg, Int64.lt_iff_toInt_lt, Int64.le_iff_toInt_le, ← Int64.toInt_inj, Int64.reduceToInt, Int32.toInt_toInt64, lg_cmp_ge, lg_cmp_le, lg_cmp_gt, lg_cmp_lt, lg_cmp_eq, Bool.false_eq_true, Bool.true_eq_false, reduceCtorEq, false_iff, true_iff, iff_true, iff_false, and_true, true_and, and_false, false_and, reduceIte, ite_true, ite_false, eq_self] at *)) <;> omega)), trivial⟩ rfl
set_option maxHeartbeats 4000000 in
theorem sp_X10_run (G : kG9) {d : Nat} (hd : 6 ≤ d) (σ : St) (a0 : Int32) (a1 : Int32) (r1 : 0 ≤ (gi σ 60 12).toInt ∧ (gi σ 60 12).toInt ≤ 4) : Ct G M_X10_run d [.ref 69, .int a0, .int a1] σ (fun r σ' => ∃ x : Int32, r = some (.int x) ∧ Sm 60 75 σ σ' ∧ (0 ≤ (gi σ' 60 12).toInt ∧ (gi σ' 60 12).toInt ≤ 4) ∧ True) := by
  refine wa_start (by decide) rfl (Nat.le_of_ble_eq_true rfl) (lv := [(0, .ref 69), (1, .int a0), (2, .int a1)]) rfl o_X10_run_0 rfl ?_
  have ua0 := Int32.toInt_lt a0
  have wa0 := Int32.le_toInt a0
  have ua1 := Int32.toInt_lt a1
  have wa1 := Int32.le_toInt a1
  refine wa_aload_n (i := 0) rfl rfl ?_
  refine wa_iconst (v := 1) (by decide) ?_
  refine wa_putz true (rfl) ck_10 fl_10_32 ly_69 (fun s1 hs1 => ?_)
  have Fs1 : Sm 60 75 σ s1 := by rw [hs1]; exact Sm.sb (Sm.rf 60 75 σ) _ _ (by decide) (by decide)
  refine wa_aload_n (i := 0) rfl rfl ?_
  refine wa_iconst (v := 0) (by decide) ?_
  refine wa_puti ck_10 fl_10_36 ly_69 (fun s2 hs2 => ?_)
  have Fs2 : Sm 60 75 σ s2 := by rw [hs2]; exact Sm.si Fs1 _ _ (by decide) (by decide)
  refine wa_aload_n (i := 0) rfl rfl ?_
  refine wa_iconst (v := 0) (by decide) ?_
  refine wa_puti ck_10 fl_10_40 ly_69 (fun s3 hs3 => ?_)
  have Fs3 : Sm 60 75 σ s3 := by rw [hs3]; exact Sm.si Fs2 _ _ (by decide) (by decide)
  refine wa_aload_n (i := 0) rfl rfl ?_
  refine wa_lconst (v := 0) (by decide) ?_
  refine wa_putl ck_10 fl_10_43 ly_69 (fun s4 hs4 => ?_)
  have Fs4 : Sm 60 75 σ s4 := by rw [hs4]; exact Sm.sl Fs3 _ _ (by decide) (by decide)
  refine wa_aload_n (i := 0) rfl rfl ?_
  refine wa_iconst (v := 0) (by decide) ?_
  refine wa_putz false (rfl) ck_10 fl_10_47 ly_69 (fun s5 hs5 => ?_)
  have Fs5 : Sm 60 75 σ s5 := by rw [hs5]; exact Sm.sb Fs4 _ _ (by decide) (by decide)
  refine wa_aload_n (i := 0) rfl rfl ?_
  refine wa_getr ck_10 fl_10_25 ly_69 rf_69_5 ?_
  refine wa_lconst (v := 0) (by decide) ?_
  refine wa_Sv (d9 := d - 1) [.ref 74, .long _] [] (sp_J7_fill_d0a16_at_74 G (d := d - 1) (by omega) s5 _) (rfl) rfl rfl (zr (by omega)) mk_J7_fill_d0a16 ml_10_50 (Nat.le_of_ble_eq_true rfl) (fun s6 hs6 => ?_)
  obtain ⟨fs6, -⟩ := hs6
  have Fs6 := Sm.tr Fs5 (Sm.wd fs6 (lo' := 60) (hi' := 75) (by decide) (by decide))
  refine wa_aload_n (i := 0) rfl rfl ?_
  refine wa_iconst (v := 0) (by decide) ?_
  refine wa_puti ck_10 fl_10_56 ly_69 (fun s8 hs8 => ?_)
  have Fs8 : Sm 60 75 σ s8 := by rw [hs8]; exact Sm.si Fs6 _ _ (by decide) (by decide)
  refine wa_aload_n (i := 0) rfl rfl ?_
  refine wa_aload_n (i := 0) rfl rfl ?_
  refine wa_getr ck_10 fl_10_28 ly_69 rf_69_0 ?_
  refine wa_geti ck_9 fl_10_59 ly_60 ?_
  refine wa_rw ((nxq_gi_si hs8 (by decide)).trans ((Sm.gi fs6 11 (Or.inl (by decide))).trans ((nx_gi_sb hs5).trans ((nx_gi_sl hs4).trans ((nxq_gi_si hs3 (by decide)).trans ((nxq_gi_si hs2 (by decide)).trans (nx_gi_sb hs1))))))) ?_
  refine wa_iconst (v := (-1)) (by decide) ?_
  refine wa_iconst (v := 0) (by decide) ?_
  refine wa_lconst (v := 0) (by decide) ?_
  refine wa_Vv (d9 := d - 1) [.int _, .int _, .int _, .long _] [] (sp_X10_lay G (d := d - 1) (by omega) s8 _ _ _ _) (rfl) rfl rfl (zr (by omega)) mk_X10_lay ly_69 ml_10_64 (Nat.le_of_ble_eq_true rfl) (fun s9 hs9 => ?_)
  obtain ⟨fs9, -⟩ := hs9
  have Fs9 := Sm.tr Fs8 (Sm.wd fs9 (lo' := 60) (hi' := 75) (by decide) (by decide))
  refine wa_iconst (v := 0) (by decide) ?_
  refine wa_istore_nD (lv' := [(3, .int 0), (0, .ref 69), (1, .int a0), (2, .int a1)]) (i := 3) rfl (by decide) rfl ?_
  refine wa_pick [1, 2, 3, 0] rfl ?_
  have hi13 : ∀ (n9_54 : Nat) (l3 : Int32) (s11 : St), ((Sm 60 75 σ s11) ∧ (0 ≤ l3.toInt) ∧ (0 ≤ (gi s11 60 12).toInt ∧ (gi s11 60 12).toInt ≤ 4) ∧ (True)) → (2147483647 - l3.toInt).toNat = n9_54 → WA G M_X10_run (ZM G M_X10_run d (fun r σ' => ∃ x : Int32, r = some (.int x) ∧ Sm 60 75 σ σ' ∧ (0 ≤ (gi σ' 60 12).toInt ∧ (gi σ' 60 12).toInt ≤ 4) ∧ True)) B_X10_run_54 [(0, .ref 69), (1, .int a0), (2, .int a1), (3, .int l3)] [] s11 := by
    intro n9_54
    induction n9_54 using Nat.strongRecOn with
    | _ n9_54 ih12 =>
      intro l3 s11 i9 m9_54
      obtain ⟨Fs11, jhi13_0, jhi13_1, -⟩ := i9
      have ul3 := Int32.toInt_lt l3
      have wl3 := Int32.le_toInt l3
      refine wa_iload_n (i := 3) rfl rfl ?_
      refine wa_bipush (v := 100) (by decide) ?_
      refine wa_icmp_ge o_X10_run_95 (by decide) (fun h14 => ?_) (fun h14 => ?_)
      · refine wa_aload_n (i := 0) rfl rfl ?_
        refine wa_geti ck_10 fl_10_56 ly_69 ?_
        refine wa_if_le o_X10_run_106 (by decide) (fun h15 => ?_) (fun h15 => ?_)
        · refine wa_aload_n (i := 0) rfl rfl ?_
          refine wa_getz ck_10 fl_10_47 ly_69 ?_
          refine wa_if_eq o_X10_run_117 (by decide) (fun h16 => ?_) (fun h16 => ?_)
          · replace h16 := bI_f (b := (gb s11 69 10)) (rfl) h16
            refine wa_iconst (v := 0) (by decide) ?_
            refine wa_ireturn rfl rfl ?_
            exact ⟨_, rfl, Fs11, (by first | assumption | (((try simp only [vp_in_iff, Int32.lt_iff_toInt_lt, Int32.le_iff_toInt_le, ← Int32.toInt_inj, Int32.reduceToInt, n_1, n_2, n_8, Int32.toNatClampNeg, Int64.lt_iff_toInt_lt, Int64.le_iff_toInt_le, ← Int64.toInt_inj, Int64.reduceToInt, Int32.toInt_toInt64, lg_cmp_ge, lg_cmp_le, lg_cmp_gt, lg_cmp_lt, lg_cmp_eq, Bool.false_eq_true, Bool.true_eq_false, reduceCtorEq, false_iff, true_iff, iff_true, iff_false, and_true, true_and, and_false, false_and, reduceIte, ite_true, ite_false, eq_self] at *)) <;> omega)), trivial⟩
          · replace h16 := bI_t (b := (gb s11 69 10)) (rfl) h16
            refine wa_iconst (v := 1) (by decide) ?_
            refine wa_goto o_X10_run_118 (by decide) ?_
            refine wa_ireturn rfl rfl ?_
            exact ⟨_, rfl, Fs11, (by first | assumption | (((try simp only [vp_in_iff, Int32.lt_iff_toInt_lt, Int32.le_iff_toInt_le, ← Int32.toInt_inj, Int32.reduceToInt, n_1, n_2, n_8, Int32.toNatClampNeg, Int64.lt_iff_toInt_lt, Int64.le_iff_toInt_le, ← Int64.toInt_inj, Int64.reduceToInt, Int32.toInt_toInt64, lg_cmp_ge, lg_cmp_le, lg_cmp_gt, lg_cmp_lt, lg_cmp_eq, Bool.false_eq_true, Bool.true_eq_false, reduceCtorEq, false_iff, true_iff, iff_true, iff_false, and_true, true_and, and_false, false_and, reduceIte, ite_true, ite_false, eq_self] at *)) <;> omega)), trivial⟩
        · refine wa_iconst (v := 2) (by decide) ?_
          refine wa_goto o_X10_run_118 (by decide) ?_
          refine wa_ireturn rfl rfl ?_
          exact ⟨_, rfl, Fs11, (by first | assumption | (((try simp only [vp_in_iff, Int32.lt_iff_toInt_lt, Int32.le_iff_toInt_le, ← Int32.toInt_inj, Int32.reduceToInt, n_1, n_2, n_8, Int32.toNatClampNeg, Int64.lt_iff_toInt_lt, Int64.le_iff_toInt_le, ← Int64.toInt_inj, Int64.reduceToInt, Int32.toInt_toInt64, lg_cmp_ge, lg_cmp_le, lg_cmp_gt, lg_cmp_lt, lg_cmp_eq, Bool.false_eq_true, Bool.true_eq_false, reduceCtorEq, false_iff, true_iff, iff_true, iff_false, and_true, true_and, and_false, false_and, reduceIte, ite_true, ite_false, eq_self] at *)) <;> omega)), trivial⟩
      · have mh14 := nle_mx h14
        refine wa_aload_n (i := 0) rfl rfl ?_
        refine wa_geti ck_10 fl_10_56 ly_69 ?_
        refine wa_if_le o_X10_run_95 (by decide) (fun h17 => ?_) (fun h17 => ?_)
        · refine wa_aload_n (i := 0) rfl rfl ?_
          refine wa_geti ck_10 fl_10_56 ly_69 ?_
          refine wa_if_le o_X10_run_106 (by decide) (fun h18 => ?_) (fun h18 => ?_)
          · refine wa_aload_n (i := 0) rfl rfl ?_
            refine wa_getz ck_10 fl_10_47 ly_69 ?_
            refine wa_if_eq o_X10_run_117 (by decide) (fun h19 => ?_) (fun h19 => ?_)
            · replace h19 := bI_f (b := (gb s11 69 10)) (rfl) h19
              refine wa_iconst (v := 0) (by decide) ?_
              refine wa_ireturn rfl rfl ?_
              exact ⟨_, rfl, Fs11, (by first | assumption | (((try simp only [vp_in_iff, Int32.lt_iff_toInt_lt, Int32.le_iff_toInt_le, ← Int32.toInt_inj, Int32.reduceToInt, n_1, n_2, n_8, Int32.toNatClampNeg, Int64.lt_iff_toInt_lt, Int64.le_iff_toInt_le, ← Int64.toInt_inj, Int64.reduceToInt, Int32.toInt_toInt64, lg_cmp_ge, lg_cmp_le, lg_cmp_gt, lg_cmp_lt, lg_cmp_eq, Bool.false_eq_true, Bool.true_eq_false, reduceCtorEq, false_iff, true_iff, iff_true, iff_false, and_true, true_and, and_false, false_and, reduceIte, ite_true, ite_false, eq_self] at *)) <;> omega)), trivial⟩
            · replace h19 := bI_t (b := (gb s11 69 10)) (rfl) h19
              refine wa_iconst (v := 1) (by decide) ?_
              refine wa_goto o_X10_run_118 (by decide) ?_
              refine wa_ireturn rfl rfl ?_
              exact ⟨_, rfl, Fs11, (by first | assumption | (((try simp only [vp_in_iff, Int32.lt_iff_toInt_lt, Int32.le_iff_toInt_le, ← Int32.toInt_inj, Int32.reduceToInt, n_1, n_2, n_8, Int32.toNatClampNeg, Int64.lt_iff_toInt_lt, Int64.le_iff_toInt_le, ← Int64.toInt_inj, Int64.reduceToInt, Int32.toInt_toInt64, lg_cmp_ge, lg_cmp_le, lg_cmp_gt, lg_cmp_lt, lg_cmp_eq, Bool.false_eq_true, Bool.true_eq_false, reduceCtorEq, false_iff, true_iff, iff_true, iff_false, and_true, true_and, and_false, false_and, reduceIte, ite_true, ite_false, eq_self] at *)) <;> omega)), trivial⟩
          · refine wa_iconst (v := 2) (by decide) ?_
            refine wa_goto o_X10_run_118 (by decide) ?_
            refine wa_ireturn rfl rfl ?_
            exact ⟨_, rfl, Fs11, (by first | assumption | (((try simp only [vp_in_iff, Int32.lt_iff_toInt_lt, Int32.le_iff_toInt_le, ← Int32.toInt_inj, Int32.reduceToInt, n_1, n_2, n_8, Int32.toNatClampNeg, Int64.lt_iff_toInt_lt, Int64.le_iff_toInt_le, ← Int64.toInt_inj, Int64.reduceToInt, Int32.toInt_toInt64, lg_cmp_ge, lg_cmp_le, lg_cmp_gt, lg_cmp_lt, lg_cmp_eq, Bool.false_eq_true, Bool.true_eq_false, reduceCtorEq, false_iff, true_iff, iff_true, iff_false, and_true, true_and, and_false, false_and, reduceIte, ite_true, ite_false, eq_self] at *)) <;> omega)), trivial⟩
        · refine wa_aload_n (i := 0) rfl rfl ?_
          refine wa_geti ck_10 fl_10_36 ly_69 ?_
          refine wa_iload_n (i := 2) rfl rfl ?_
          refine wa_icmp_ge o_X10_run_95 (by decide) (fun h20 => ?_) (fun h20 => ?_)
          · refine wa_aload_n (i := 0) rfl rfl ?_
            refine wa_geti ck_10 fl_10_56 ly_69 ?_
            refine wa_if_le o_X10_run_106 (by decide) (fun h21 => ?_) (fun h21 => ?_)
            · refine wa_aload_n (i := 0) rfl rfl ?_
              refine wa_getz ck_10 fl_10_47 ly_69 ?_
              refine wa_if_eq o_X10_run_117 (by decide) (fun h22 => ?_) (fun h22 => ?_)
              · replace h22 := bI_f (b := (gb s11 69 10)) (rfl) h22
                refine wa_iconst (v := 0) (by decide) ?_
                refine wa_ireturn rfl rfl ?_
                exact ⟨_, rfl, Fs11, (by first | assumption | (((try simp only [vp_in_iff, Int32.lt_iff_toInt_lt, Int32.le_iff_toInt_le, ← Int32.toInt_inj, Int32.reduceToInt, n_1, n_2, n_8, Int32.toNatClampNeg, Int64.lt_iff_toInt_lt, Int64.le_iff_toInt_le, ← Int64.toInt_inj, Int64.reduceToInt, Int32.toInt_toInt64, lg_cmp_ge, lg_cmp_le, lg_cmp_gt, lg_cmp_lt, lg_cmp_eq, Bool.false_eq_true, Bool.true_eq_false, reduceCtorEq, false_iff, true_iff, iff_true, iff_false, and_true, true_and, and_false, false_and, reduceIte, ite_true, ite_false, eq_self] at *)) <;> omega)), trivial⟩
              · replace h22 := bI_t (b := (gb s11 69 10)) (rfl) h22
                refine wa_iconst (v := 1) (by decide) ?_
                refine wa_goto o_X10_run_118 (by decide) ?_
                refine wa_ireturn rfl rfl ?_
                exact ⟨_, rfl, Fs11, (by first | assumption | (((try simp only [vp_in_iff, Int32.lt_iff_toInt_lt, Int32.le_iff_toInt_le, ← Int32.toInt_inj, Int32.reduceToInt, n_1, n_2, n_8, Int32.toNatClampNeg, Int64.lt_iff_toInt_lt, Int64.le_iff_toInt_le, ← Int64.toInt_inj, Int64.reduceToInt, Int32.toInt_toInt64, lg_cmp_ge, lg_cmp_le, lg_cmp_gt, lg_cmp_lt, lg_cmp_eq, Bool.false_eq_true, Bool.true_eq_false, reduceCtorEq, false_iff, true_iff, iff_true, iff_false, and_true, true_and, and_false, false_and, reduceIte, ite_true, ite_false, eq_self] at *)) <;> omega)), trivial⟩
            · refine wa_iconst (v := 2) (by decide) ?_
              refine wa_goto o_X10_run_118 (by decide) ?_
              refine wa_ireturn rfl rfl ?_
              exact ⟨_, rfl, Fs11, (by first | assumption | (((try simp only [vp_in_iff, Int32.lt_iff_toInt_lt, Int32.le_iff_toInt_le, ← Int32.toInt_inj, Int32.reduceToInt, n_1, n_2, n_8, Int32.toNatClampNeg, Int64.lt_iff_toInt_lt, Int64.le_iff_toInt_le, ← Int64.toInt_inj, Int64.reduceToInt, Int32.toInt_toInt64, lg_cmp_ge, lg_cmp_le, lg_cmp_gt, lg_cmp_lt, lg_cmp_eq, Bool.false_eq_true, Bool.true_eq_false, reduceCtorEq, false_iff, true_iff, iff_true, iff_false, and_true, true_and, and_false, false_and, reduceIte, ite_true, ite_false, eq_self] at *)) <;> omega)), trivial⟩
          · have mh20 := nle_mx h20
            refine wa_aload_n (i := 0) rfl rfl ?_
            refine wa_Vv (d9 := d - 1) [] [] (sp_X10_take G (d := d - 1) (by omega) s11  (by first | assumption | exact Or.inl rfl | exact Or.inr rfl | (((try simp only [vp_in_iff, Int32.lt_iff_toInt_lt, Int32.le_iff_toInt_le, ← Int32.toInt_inj, Int32.reduceToInt, n_1, n_2, n_8, Int32.toNatClampNeg, Int64.lt_iff_toInt_lt, Int64.le_iff_toInt_le, ← Int64.toInt_inj, Int64.reduceToInt, Int32.toInt_toInt64, lg_cmp_ge, lg_cmp_le, lg_cmp_gt, lg_cmp_lt, lg_cmp_eq, Bool.false_eq_true, Bool.true_eq_false, reduceCtorEq, false_iff, true_iff, iff_true, iff_false, and_true, true_and, and_false, false_and, reduceIte, ite_true, ite_false, eq_self] at *)) <;> omega))) (rfl) rfl rfl (zr (by omega)) mk_X10_take ly_69 ml_10_68 (Nat.le_of_ble_eq_true rfl) (fun s23 hs23 => ?_)
            obtain ⟨fs23, cx24_1, -⟩ := hs23
            have Fs23 := Sm.tr Fs11 (Sm.wd fs23 (lo' := 60) (hi' := 75) (by decide) (by decide))
            refine wa_aload_n (i := 0) rfl rfl ?_
            refine wa_iload_n (i := 1) rfl rfl ?_
            refine wa_Vi (d9 := d - 1) [.int _] [] (sp_X10_look G (d := d - 1) (by omega) s23 _ (by first | assumption | exact Or.inl rfl | exact Or.inr rfl | (((try simp only [vp_in_iff, Int32.lt_iff_toInt_lt, Int32.le_iff_toInt_le, ← Int32.toInt_inj, Int32.reduceToInt, n_1, n_2, n_8, Int32.toNatClampNeg, Int64.lt_iff_toInt_lt, Int64.le_iff_toInt_le, ← Int64.toInt_inj, Int64.reduceToInt, Int32.toInt_toInt64, lg_cmp_ge, lg_cmp_le, lg_cmp_gt, lg_cmp_lt, lg_cmp_eq, Bool.false_eq_true, Bool.true_eq_false, reduceCtorEq, false_iff, true_iff, iff_true, iff_false, and_true, true_and, and_false, false_and, reduceIte, ite_true, ite_false, eq_self] at *)) <;> omega))) (rfl) rfl rfl (zr (by omega)) mk_X10_look ly_69 ml_10_71 (Nat.le_of_ble_eq_true rfl) (fun x26 s25 hs25 => ?_)
            obtain ⟨bx26, ex26, fs25, cx26_1, -⟩ := pB hs25
            subst ex26
            have Fs25 := Sm.tr Fs23 (Sm.wd fs25 (lo' := 60) (hi' := 75) (by decide) (by decide))
            refine wa_if_ne o_X10_run_89 (by decide) (fun h27 => ?_) (fun h27 => ?_)
            · replace h27 := bI_t (b := bx26) (rfl) h27
              refine wa_iinc (v := (1)) (lv' := fun y28 => [(3, .int y28), (0, .ref 69), (1, .int a0), (2, .int a1)]) (by decide) rfl (by decide) (fun _ => rfl) (fun y28 hy28 => ?_)
              have ty28 := i_addT hy28.symm
              clear hy28
              refine wa_goto o_X10_run_54 (by decide) ?_
              refine wa_pick [1, 2, 3, 0] rfl ?_
              exact ih12 _ (by ((try simp only [vp_in_iff, Int32.lt_iff_toInt_lt, Int32.le_iff_toInt_le, ← Int32.toInt_inj, Int32.reduceToInt, n_1, n_2, n_8, Int32.toNatClampNeg, Int64.lt_iff_toInt_lt, Int64.le_iff_toInt_le, ← Int64.toInt_inj, Int64.reduceToInt, Int32.toInt_toInt64, lg_cmp_ge, lg_cmp_le, lg_cmp_gt, lg_cmp_lt, lg_cmp_eq, Bool.false_eq_true, Bool.true_eq_false, reduceCtorEq, false_iff, true_iff, iff_true, iff_false, and_true, true_and, and_false, false_and, reduceIte, ite_true, ite_false, eq_self] at *)) <;> omega) _ _ ⟨Fs25, (by ((try simp only [vp_in_iff, Int32.lt_iff_toInt_lt, Int32.le_iff_toInt_le, ← Int32.toInt_inj, Int32.reduceToInt, n_1, n_2, n_8, Int32.toNatClampNeg, Int64.lt_iff_toInt_lt, Int64.le_iff_toInt_le, ← Int64.toInt_inj, Int64.reduceToInt, Int32.toInt_toInt64, lg_cmp_ge, lg_cmp_le, lg_cmp_gt, lg_cmp_lt, lg_cmp_eq, Bool.false_eq_true, Bool.true_eq_false, reduceCtorEq, false_iff, true_iff, iff_true, iff_false, and_true, true_and, and_false, false_and, reduceIte, ite_true, ite_false, eq_self] at *)) <;> omega), (by first | assumption | (((try simp only [vp_in_iff, Int32.lt_iff_toInt_lt, Int32.le_iff_toInt_le, ← Int32.toInt_inj, Int32.reduceToInt, n_1, n_2, n_8, Int32.toNatClampNeg, Int64.lt_iff_toInt_lt, Int64.le_iff_toInt_le, ← Int64.toInt_inj, Int64.reduceToInt, Int32.toInt_toInt64, lg_cmp_ge, lg_cmp_le, lg_cmp_gt, lg_cmp_lt, lg_cmp_eq, Bool.false_eq_true, Bool.true_eq_false, reduceCtorEq, false_iff, true_iff, iff_true, iff_false, and_true, true_and, and_false, false_and, reduceIte, ite_true, ite_false, eq_self] at *)) <;> omega)), trivial⟩ rfl
            · replace h27 := bI_f (b := bx26) (rfl) h27
              refine wa_iconst (v := 3) (by decide) ?_
              refine wa_ireturn rfl rfl ?_
              exact ⟨_, rfl, Fs25, (by first | assumption | (((try simp only [vp_in_iff, Int32.lt_iff_toInt_lt, Int32.le_iff_toInt_le, ← Int32.toInt_inj, Int32.reduceToInt, n_1, n_2, n_8, Int32.toNatClampNeg, Int64.lt_iff_toInt_lt, Int64.le_iff_toInt_le, ← Int64.toInt_inj, Int64.reduceToInt, Int32.toInt_toInt64, lg_cmp_ge, lg_cmp_le, lg_cmp_gt, lg_cmp_lt, lg_cmp_eq, Bool.false_eq_true, Bool.true_eq_false, reduceCtorEq, false_iff, true_iff, iff_true, iff_false, and_true, true_and, and_false, false_and, reduceIte, ite_true, ite_false, eq_self] at *)) <;> omega)), trivial⟩
  exact hi13 _ _ _ ⟨Fs9, (by ((try simp only [vp_in_iff, Int32.lt_iff_toInt_lt, Int32.le_iff_toInt_le, ← Int32.toInt_inj, Int32.reduceToInt, n_1, n_2, n_8, Int32.toNatClampNeg, Int64.lt_iff_toInt_lt, Int64.le_iff_toInt_le, ← Int64.toInt_inj, Int64.reduceToInt, Int32.toInt_toInt64, lg_cmp_ge, lg_cmp_le, lg_cmp_gt, lg_cmp_lt, lg_cmp_eq, Bool.false_eq_true, Bool.true_eq_false, reduceCtorEq, false_iff, true_iff, iff_true, iff_false, and_true, true_and, and_false, false_and, reduceIte, ite_true, ite_false, eq_self] at *)) <;> omega), (by rw [(Sm.gi fs9 12 (Or.inl (by decide))).trans ((nxq_gi_si hs8 (by decide)).trans ((Sm.gi fs6 12 (Or.inl (by decide))).trans ((nx_gi_sb hs5).trans ((nx_gi_sl hs4).trans ((nxq_gi_si hs3 (by decide)).trans ((nxq_gi_si hs2 (by decide)).trans (nx_gi_sb hs1)))))))]; first | assumption | (((try simp only [vp_in_iff, Int32.lt_iff_toInt_lt, Int32.le_iff_toInt_le, ← Int32.toInt_inj, Int32.reduceToInt, n_1, n_2, n_8, Int32.toNatClampNeg, Int64.lt_iff_toInt_lt, Int64.le_iff_toInt_le, ← Int64.toInt_inj, Int64.reduceToInt, Int32.toInt_toInt64, lg_cmp_ge, lg_cmp_le, lg_cmp_gt, lg_cmp_lt, lg_cmp_eq, Bool.false_eq_true, Bool.true_eq_false, reduceCtorEq, false_iff, true_iff, iff_true, iff_false, and_true, true_and, and_false, false_and, reduceIte, ite_true, ite_false, eq_self] at *)) <;> omega)), trivial⟩ rfl
set_option maxHeartbeats 4000000 in
theorem sp_X11_feedOne (G : kG9) {d : Nat} (hd : 0 ≤ d) (σ : St) (a0 : Int32) : Ct G M_X11_feedOne d [.ref 0, .int a0] σ (fun r σ' => Fm [0, 1] [] σ σ' ∧ True) := by
  refine wa_start (by decide) rfl (Nat.le_of_ble_eq_true rfl) (lv := [(0, .ref 0), (1, .int a0)]) rfl o_X11_feedOne_0 rfl ?_
  have ua0 := Int32.toInt_lt a0
  have wa0 := Int32.le_toInt a0
  refine wa_bipush (v := 24) (by decide) ?_
  refine wa_istore_nD (lv' := [(2, .int 24), (0, .ref 0), (1, .int a0)]) (i := 2) rfl (by decide) rfl ?_
  refine wa_pick [1, 2, 0] rfl ?_
  have hi3 : ∀ (n9_3 : Nat) (l2 : Int32) (s1 : St), ((Fm [0, 1] [] σ s1) ∧ (True)) → (l2.toInt + 8).toNat = n9_3 → WA G M_X11_feedOne (ZM G M_X11_feedOne d (fun r σ' => Fm [0, 1] [] σ σ' ∧ True)) B_X11_feedOne_3 [(0, .ref 0), (1, .int a0), (2, .int l2)] [] s1 := by
    intro n9_3
    induction n9_3 using Nat.strongRecOn with
    | _ n9_3 ih2 =>
      intro l2 s1 i9 m9_3
      obtain ⟨Fs1, -⟩ := i9
      have ul2 := Int32.toInt_lt l2
      have wl2 := Int32.le_toInt l2
      refine wa_iload_n (i := 2) rfl rfl ?_
      refine wa_if_lt o_X11_feedOne_53 (by decide) (fun h4 => ?_) (fun h4 => ?_)
      · refine wa_return (st := []) rfl rfl ?_
        exact ⟨Fs1, trivial⟩
      · refine wa_aload_n (i := 0) rfl rfl ?_
        refine wa_geti ck_11 fl_11_102 ly_0 ?_
        refine wa_if_lt o_X11_feedOne_47 (by decide) (fun h5 => ?_) (fun h5 => ?_)
        · refine wa_iinc (v := (-8)) (lv' := fun y6 => [(2, .int y6), (0, .ref 0), (1, .int a0)]) (by decide) rfl (by decide) (fun _ => rfl) (fun y6 hy6 => ?_)
          have ty6 := i_addT hy6.symm
          clear hy6
          refine wa_goto o_X11_feedOne_3 (by decide) ?_
          refine wa_pick [1, 2, 0] rfl ?_
          exact ih2 _ (by ((try simp only [vp_in_iff, Int32.lt_iff_toInt_lt, Int32.le_iff_toInt_le, ← Int32.toInt_inj, Int32.reduceToInt, n_1, n_2, n_8, Int32.toNatClampNeg, Int64.lt_iff_toInt_lt, Int64.le_iff_toInt_le, ← Int64.toInt_inj, Int64.reduceToInt, Int32.toInt_toInt64, lg_cmp_ge, lg_cmp_le, lg_cmp_gt, lg_cmp_lt, lg_cmp_eq, Bool.false_eq_true, Bool.true_eq_false, reduceCtorEq, false_iff, true_iff, iff_true, iff_false, and_true, true_and, and_false, false_and, reduceIte, ite_true, ite_false, eq_self] at *)) <;> omega) _ _ ⟨Fs1, trivial⟩ rfl
        · refine wa_aload_n (i := 0) rfl rfl ?_
          refine wa_geti ck_11 fl_11_102 ly_0 ?_
          refine wa_sipush (v := 2000) (by decide) ?_
          refine wa_icmp_ge o_X11_feedOne_47 (by decide) (fun h7 => ?_) (fun h7 => ?_)
          · refine wa_iinc (v := (-8)) (lv' := fun y8 => [(2, .int y8), (0, .ref 0), (1, .int a0)]) (by decide) rfl (by decide) (fun _ => rfl) (fun y8 hy8 => ?_)
            have ty8 := i_addT hy8.symm
            clear hy8
            refine wa_goto o_X11_feedOne_3 (by decide) ?_
            refine wa_pick [1, 2, 0] rfl ?_
            exact ih2 _ (by ((try simp only [vp_in_iff, Int32.lt_iff_toInt_lt, Int32.le_iff_toInt_le, ← Int32.toInt_inj, Int32.reduceToInt, n_1, n_2, n_8, Int32.toNatClampNeg, Int64.lt_iff_toInt_lt, Int64.le_iff_toInt_le, ← Int64.toInt_inj, Int64.reduceToInt, Int32.toInt_toInt64, lg_cmp_ge, lg_cmp_le, lg_cmp_gt, lg_cmp_lt, lg_cmp_eq, Bool.false_eq_true, Bool.true_eq_false, reduceCtorEq, false_iff, true_iff, iff_true, iff_false, and_true, true_and, and_false, false_and, reduceIte, ite_true, ite_false, eq_self] at *)) <;> omega) _ _ ⟨Fs1, trivial⟩ rfl
          · have mh7 := nle_mx h7
            refine wa_aload_n (i := 0) rfl rfl ?_
            refine wa_getr ck_11 fl_11_9 ly_0 rf_0_0 ?_
            refine wa_aload_n (i := 0) rfl rfl ?_
            refine wa_geti ck_11 fl_11_102 ly_0 ?_
            refine wa_iload_n (i := 1) rfl rfl ?_
            refine wa_iload_n (i := 2) rfl rfl ?_
            refine wa_ishr ?_
            refine wa_top (fun v9 hv9 => ?_)
            clear hv9
            refine wa_i2b ?_
            refine wa_top (fun v10 hv10 => ?_)
            clear hv10
            refine wa_bast ly_1 (by ((try simp only [vp_in_iff, Int32.lt_iff_toInt_lt, Int32.le_iff_toInt_le, ← Int32.toInt_inj, Int32.reduceToInt, n_1, n_2, n_8, Int32.toNatClampNeg, Int64.lt_iff_toInt_lt, Int64.le_iff_toInt_le, ← Int64.toInt_inj, Int64.reduceToInt, Int32.toInt_toInt64, lg_cmp_ge, lg_cmp_le, lg_cmp_gt, lg_cmp_lt, lg_cmp_eq, Bool.false_eq_true, Bool.true_eq_false, reduceCtorEq, false_iff, true_iff, iff_true, iff_false, and_true, true_and, and_false, false_and, reduceIte, ite_true, ite_false, eq_self] at *)) <;> omega) (fun s11 hs11 => ?_)
            have Fs11 : Fm [0, 1] [] σ s11 := by rw [hs11]; exact Fm.sy Fs1 rfl
            refine wa_aload_n (i := 0) rfl rfl ?_
            refine wa_dup rfl ?_
            refine wa_geti ck_11 fl_11_102 ly_0 ?_
            refine wa_rw (nx_gi_sy hs11) ?_
            refine wa_iconst (v := 1) (by decide) ?_
            refine wa_iadd ?_
            refine wa_top (fun v12 hv12 => ?_)
            have tv12 := i_addT hv12
            clear hv12
            refine wa_puti ck_11 fl_11_102 ly_0 (fun s13 hs13 => ?_)
            have Fs13 : Fm [0, 1] [] σ s13 := by rw [hs13]; exact Fm.si Fs11 rfl
            refine wa_iinc (v := (-8)) (lv' := fun y14 => [(2, .int y14), (0, .ref 0), (1, .int a0)]) (by decide) rfl (by decide) (fun _ => rfl) (fun y14 hy14 => ?_)
            have ty14 := i_addT hy14.symm
            clear hy14
            refine wa_goto o_X11_feedOne_3 (by decide) ?_
            refine wa_pick [1, 2, 0] rfl ?_
            exact ih2 _ (by ((try simp only [vp_in_iff, Int32.lt_iff_toInt_lt, Int32.le_iff_toInt_le, ← Int32.toInt_inj, Int32.reduceToInt, n_1, n_2, n_8, Int32.toNatClampNeg, Int64.lt_iff_toInt_lt, Int64.le_iff_toInt_le, ← Int64.toInt_inj, Int64.reduceToInt, Int32.toInt_toInt64, lg_cmp_ge, lg_cmp_le, lg_cmp_gt, lg_cmp_lt, lg_cmp_eq, Bool.false_eq_true, Bool.true_eq_false, reduceCtorEq, false_iff, true_iff, iff_true, iff_false, and_true, true_and, and_false, false_and, reduceIte, ite_true, ite_false, eq_self] at *)) <;> omega) _ _ ⟨Fs13, trivial⟩ rfl
  exact hi3 _ _ _ ⟨(Fm.rf [0, 1] [] σ), trivial⟩ rfl
set_option maxHeartbeats 4000000 in
theorem sp_X11_sync (G : kG9) {d : Nat} (hd : 3 ≤ d) (σ : St) : Ct G M_X11_sync d [.ref 0] σ (fun r σ' => ∃ x : Int32, r = some (.int x) ∧ Fm [2, 3, 4, 5] [] σ σ' ∧ True) := by
  refine wa_start (by decide) rfl (Nat.le_of_ble_eq_true rfl) (lv := [(0, .ref 0)]) rfl o_X11_sync_0 rfl ?_
  refine wa_aload_n (i := 0) rfl rfl ?_
  refine wa_getr ck_11 fl_11_16 ly_0 rf_0_1 ?_
  refine wa_getz ck_1 fl_11_122 ly_2 ?_
  refine wa_if_eq o_X11_sync_15 (by decide) (fun h1 => ?_) (fun h1 => ?_)
  · replace h1 := bI_f (b := (gb σ 2 8)) (rfl) h1
    refine wa_aload_n (i := 0) rfl rfl ?_
    refine wa_getr ck_11 fl_11_16 ly_0 rf_0_1 ?_
    refine wa_Vi (d9 := d - 1) [] [] (sp_X1_writeAll G (d := d - 1) (by omega) σ ) (rfl) rfl rfl (zr (by omega)) mk_X1_writeAll ly_2 ml_11_126 (Nat.le_of_ble_eq_true rfl) (fun x3 s2 hs2 => ?_)
    obtain ⟨fs2, -⟩ := pI hs2
    have Fs2 : Fm [2, 3, 4, 5] [] σ s2 := Fm.tr (Fm.rf [2, 3, 4, 5] [] σ) (Fm.ofSm fs2 rfl)
    refine wa_ireturn rfl rfl ?_
    exact ⟨_, rfl, Fs2, trivial⟩
  · replace h1 := bI_t (b := (gb σ 2 8)) (rfl) h1
    refine wa_bipush (v := (-105)) (by decide) ?_
    refine wa_goto o_X11_sync_22 (by decide) ?_
    refine wa_ireturn rfl rfl ?_
    exact ⟨_, rfl, (Fm.rf [2, 3, 4, 5] [] σ), trivial⟩
set_option maxHeartbeats 4000000 in
theorem sp_X11_cut (G : kG9) {d : Nat} (hd : 1 ≤ d) (σ : St) (a0 : Int32) (a1 : Int32) : Ct G M_X11_cut d [.ref 0, .int a0, .int a1] σ (fun r σ' => ∃ x : Int32, r = some (.int x) ∧ Fm [2] [] σ σ' ∧ True) := by
  refine wa_start (by decide) rfl (Nat.le_of_ble_eq_true rfl) (lv := [(0, .ref 0), (1, .int a0), (2, .int a1)]) rfl o_X11_cut_0 rfl ?_
  have ua0 := Int32.toInt_lt a0
  have wa0 := Int32.le_toInt a0
  have ua1 := Int32.toInt_lt a1
  have wa1 := Int32.le_toInt a1
  refine wa_aload_n (i := 0) rfl rfl ?_
  refine wa_getr ck_11 fl_11_16 ly_0 rf_0_1 ?_
  refine wa_getz ck_1 fl_11_122 ly_2 ?_
  refine wa_if_eq o_X11_cut_13 (by decide) (fun h1 => ?_) (fun h1 => ?_)
  · replace h1 := bI_f (b := (gb σ 2 8)) (rfl) h1
    refine wa_iload_n (i := 1) rfl rfl ?_
    refine wa_iconst (v := (-1)) (by decide) ?_
    refine wa_icmp_lt o_X11_cut_36 (by decide) (fun h2 => ?_) (fun h2 => ?_)
    · refine wa_bipush (v := (-102)) (by decide) ?_
      refine wa_ireturn rfl rfl ?_
      exact ⟨_, rfl, (Fm.rf [2] [] σ), trivial⟩
    · refine wa_iload_n (i := 1) rfl rfl ?_
      refine wa_sipush (v := 2000) (by decide) ?_
      refine wa_icmp_gt o_X11_cut_36 (by decide) (fun h3 => ?_) (fun h3 => ?_)
      · refine wa_bipush (v := (-102)) (by decide) ?_
        refine wa_ireturn rfl rfl ?_
        exact ⟨_, rfl, (Fm.rf [2] [] σ), trivial⟩
      · refine wa_iload_n (i := 2) rfl rfl ?_
        refine wa_if_lt o_X11_cut_36 (by decide) (fun h4 => ?_) (fun h4 => ?_)
        · refine wa_bipush (v := (-102)) (by decide) ?_
          refine wa_ireturn rfl rfl ?_
          exact ⟨_, rfl, (Fm.rf [2] [] σ), trivial⟩
        · refine wa_iload_n (i := 2) rfl rfl ?_
          refine wa_sipush (v := 255) (by decide) ?_
          refine wa_icmp_le o_X11_cut_39 (by decide) (fun h5 => ?_) (fun h5 => ?_)
          · refine wa_aload_n (i := 0) rfl rfl ?_
            refine wa_getr ck_11 fl_11_16 ly_0 rf_0_1 ?_
            refine wa_iload_n (i := 1) rfl rfl ?_
            refine wa_iload_n (i := 2) rfl rfl ?_
            refine wa_Vv (d9 := d - 1) [.int _, .int _] [] (sp_X1_setCut G (d := d - 1) (by omega) σ _ _) (rfl) rfl rfl (zr (by omega)) mk_X1_setCut ly_2 ml_11_130 (Nat.le_of_ble_eq_true rfl) (fun s6 hs6 => ?_)
            obtain ⟨fs6, -⟩ := hs6
            have Fs6 : Fm [2] [] σ s6 := Fm.tr (Fm.rf [2] [] σ) (Fm.ofSm fs6 rfl)
            refine wa_iconst (v := 1) (by decide) ?_
            refine wa_ireturn rfl rfl ?_
            exact ⟨_, rfl, Fs6, trivial⟩
          · refine wa_bipush (v := (-102)) (by decide) ?_
            refine wa_ireturn rfl rfl ?_
            exact ⟨_, rfl, (Fm.rf [2] [] σ), trivial⟩
  · replace h1 := bI_t (b := (gb σ 2 8)) (rfl) h1
    refine wa_bipush (v := (-105)) (by decide) ?_
    refine wa_ireturn rfl rfl ?_
    exact ⟨_, rfl, (Fm.rf [2] [] σ), trivial⟩
set_option maxHeartbeats 4000000 in
theorem sp_X3_scan_at_6 (G : kG9) {d : Nat} (hd : 5 ≤ d) (σ : St) (a1 : Int32) (a2 : Int32) (a3 : Bool) : Ct G M_X3_scan d [.ref 18, .ref 6, .int a1, .int a2, .int (bI a3)] σ (fun r σ' => Sm 18 24 σ σ' ∧ ((gi σ' 18 5).toInt ≤ 2000) ∧ True) := by
  refine wa_start (by decide) rfl (Nat.le_of_ble_eq_true rfl) (lv := [(0, .ref 18), (1, .ref 6), (2, .int a1), (3, .int a2), (4, .int (bI a3))]) rfl o_X3_scan_0 rfl ?_
  have ua1 := Int32.toInt_lt a1
  have wa1 := Int32.le_toInt a1
  have ua2 := Int32.toInt_lt a2
  have wa2 := Int32.le_toInt a2
  refine wa_aload_n (i := 0) rfl rfl ?_
  refine wa_aload_n (i := 1) rfl rfl ?_
  refine wa_putr4 ck_3 fl_3_28 ly_18 (fun s1 hs1 => ?_)
  have Fs1 : Sm 18 24 σ s1 := by rw [hs1]; exact Sm.sr (Sm.rf 18 24 σ) _ _ (by decide) (by decide)
  refine wa_aload_n (i := 0) rfl rfl ?_
  refine wa_iload_n (i := 2) rfl rfl ?_
  refine wa_puti ck_3 fl_3_55 ly_18 (fun s2 hs2 => ?_)
  have Fs2 : Sm 18 24 σ s2 := by rw [hs2]; exact Sm.si Fs1 _ _ (by decide) (by decide)
  refine wa_aload_n (i := 0) rfl rfl ?_
  refine wa_iload_n (i := 2) rfl rfl ?_
  refine wa_iload_n (i := 3) rfl rfl ?_
  refine wa_iadd ?_
  refine wa_top (fun v3 hv3 => ?_)
  have tv3 := i_addT hv3
  clear hv3
  refine wa_puti ck_3 fl_3_52 ly_18 (fun s4 hs4 => ?_)
  have Fs4 : Sm 18 24 σ s4 := by rw [hs4]; exact Sm.si Fs2 _ _ (by decide) (by decide)
  refine wa_aload_n (i := 0) rfl rfl ?_
  refine wa_iconst (v := 0) (by decide) ?_
  refine wa_puti ck_3 fl_3_48 ly_18 (fun s5 hs5 => ?_)
  have Fs5 : Sm 18 24 σ s5 := by rw [hs5]; exact Sm.si Fs4 _ _ (by decide) (by decide)
  refine wa_aload_n (i := 0) rfl rfl ?_
  refine wa_iload_n (i := 2) rfl rfl ?_
  refine wa_Vi (d9 := d - 1) [.int _] [] (sp_X3_behindBlanks G (d := d - 1) (by omega) s5 _ (by rw [(nx_gr_si hs5).trans ((nx_gr_si hs4).trans ((nx_gr_si hs2).trans (nxe_gr_sr hs1)))]; first | assumption | exact Or.inl rfl | exact Or.inr rfl | (((try simp only [vp_in_iff, Int32.lt_iff_toInt_lt, Int32.le_iff_toInt_le, ← Int32.toInt_inj, Int32.reduceToInt, n_1, n_2, n_8, Int32.toNatClampNeg, Int64.lt_iff_toInt_lt, Int64.le_iff_toInt_le, ← Int64.toInt_inj, Int64.reduceToInt, Int32.toInt_toInt64, lg_cmp_ge, lg_cmp_le, lg_cmp_gt, lg_cmp_lt, lg_cmp_eq, Bool.false_eq_true, Bool.true_eq_false, reduceCtorEq, false_iff, true_iff, iff_true, iff_false, and_true, true_and, and_false, false_and, reduceIte, ite_true, ite_false, eq_self] at *)) <;> omega))) (rfl) rfl rfl (zr (by omega)) mk_X3_behindBlanks ly_18 ml_3_59 (Nat.le_of_ble_eq_true rfl) (fun x7 s6 hs6 => ?_)
  obtain ⟨zs6, -⟩ := pI hs6
  subst zs6
  refine wa_istoreD (lv' := [(5, .int x7), (0, .ref 18), (1, .ref 6), (2, .int a1), (3, .int a2), (4, .int (bI a3))]) (by decide) rfl ?_
  refine wa_iload rfl ?_
  refine wa_if_eq o_X3_scan_39 (by decide) (fun h8 => ?_) (fun h8 => ?_)
  · replace h8 := bI_f (b := a3) (rfl) h8
    refine wa_bipush (v := 14) (by decide) ?_
    refine wa_istoreD (lv' := [(6, .int 14), (5, .int x7), (0, .ref 18), (1, .ref 6), (2, .int a1), (3, .int a2), (4, .int (bI a3))]) (by decide) rfl ?_
    refine wa_iconst (v := 0) (by decide) ?_
    refine wa_istoreD (lv' := [(7, .int 0), (6, .int 14), (5, .int x7), (0, .ref 18), (1, .ref 6), (2, .int a1), (3, .int a2), (4, .int (bI a3))]) (by decide) rfl ?_
    refine wa_pick [3, 6, 2, 1, 0] rfl ?_
    have hi11 : ∀ (n9_46 : Nat) (l5 : Int32) (l7 : Int32) (s9 : St), ((Sm 18 24 σ s9) ∧ (gr s9 18 6 = 6) ∧ (gi s9 18 8 = v3) ∧ (gi s9 18 7 = a1) ∧ (0 ≤ l7.toInt) ∧ (0 ≤ (gi s9 18 5).toInt ∧ (gi s9 18 5).toInt ≤ 2000) ∧ (True)) → (2147483647 - l7.toInt).toNat = n9_46 → WA G M_X3_scan (ZM G M_X3_scan d (fun r σ' => Sm 18 24 σ σ' ∧ ((gi σ' 18 5).toInt ≤ 2000) ∧ True)) B_X3_scan_46 [(0, .ref 18), (3, .int a2), (5, .int l5), (6, .int 14), (7, .int l7)] [] s9 := by
      intro n9_46
      induction n9_46 using Nat.strongRecOn with
      | _ n9_46 ih10 =>
        intro l5 l7 s9 i9 m9_46
        obtain ⟨Fs9, khi11_0, khi11_1, khi11_2, jhi11_0, jhi11_1, -⟩ := i9
        have ul5 := Int32.toInt_lt l5
        have wl5 := Int32.le_toInt l5
        have ul7 := Int32.toInt_lt l7
        have wl7 := Int32.le_toInt l7
        refine wa_iload rfl ?_
        refine wa_sipush (v := 2000) (by decide) ?_
        refine wa_icmp_ge o_X3_scan_179 (by decide) (fun h12 => ?_) (fun h12 => ?_)
        · refine wa_aload_n (i := 0) rfl rfl ?_
          refine wa_getr ck_3 fl_3_15 ly_18 rf_18_1 ?_
          refine wa_aload_n (i := 0) rfl rfl ?_
          refine wa_geti ck_3 fl_3_48 ly_18 ?_
          refine wa_iconst (v := 0) (by decide) ?_
          refine wa_iast ly_20 (by ((try simp only [vp_in_iff, Int32.lt_iff_toInt_lt, Int32.le_iff_toInt_le, ← Int32.toInt_inj, Int32.reduceToInt, n_1, n_2, n_8, Int32.toNatClampNeg, Int64.lt_iff_toInt_lt, Int64.le_iff_toInt_le, ← Int64.toInt_inj, Int64.reduceToInt, Int32.toInt_toInt64, lg_cmp_ge, lg_cmp_le, lg_cmp_gt, lg_cmp_lt, lg_cmp_eq, Bool.false_eq_true, Bool.true_eq_false, reduceCtorEq, false_iff, true_iff, iff_true, iff_false, and_true, true_and, and_false, false_and, reduceIte, ite_true, ite_false, eq_self] at *)) <;> omega) (fun s13 hs13 => ?_)
          have Fs13 : Sm 18 24 σ s13 := by rw [hs13]; exact Sm.si Fs9 _ _ (by decide) (by decide)
          refine wa_aload_n (i := 0) rfl rfl ?_
          refine wa_getr ck_3 fl_3_19 ly_18 rf_18_2 ?_
          refine wa_aload_n (i := 0) rfl rfl ?_
          refine wa_geti ck_3 fl_3_48 ly_18 ?_
          refine wa_rw (nxq_gi_si hs13 (by decide)) ?_
          refine wa_iload_n (i := 3) rfl rfl ?_
          refine wa_iast ly_21 (by ((try simp only [vp_in_iff, Int32.lt_iff_toInt_lt, Int32.le_iff_toInt_le, ← Int32.toInt_inj, Int32.reduceToInt, n_1, n_2, n_8, Int32.toNatClampNeg, Int64.lt_iff_toInt_lt, Int64.le_iff_toInt_le, ← Int64.toInt_inj, Int64.reduceToInt, Int32.toInt_toInt64, lg_cmp_ge, lg_cmp_le, lg_cmp_gt, lg_cmp_lt, lg_cmp_eq, Bool.false_eq_true, Bool.true_eq_false, reduceCtorEq, false_iff, true_iff, iff_true, iff_false, and_true, true_and, and_false, false_and, reduceIte, ite_true, ite_false, eq_self] at *)) <;> omega) (fun s14 hs14 => ?_)
          have Fs14 : Sm 18 24 σ s14 := by rw [hs14]; exact Sm.si Fs13 _ _ (by decide) (by decide)
          refine wa_return (st := []) rfl rfl ?_
          exact ⟨Fs14, (by rw [(nxq_gi_si hs14 (by decide)).trans (nxq_gi_si hs13 (by decide))]; first | assumption | (((try simp only [vp_in_iff, Int32.lt_iff_toInt_lt, Int32.le_iff_toInt_le, ← Int32.toInt_inj, Int32.reduceToInt, n_1, n_2, n_8, Int32.toNatClampNeg, Int64.lt_iff_toInt_lt, Int64.le_iff_toInt_le, ← Int64.toInt_inj, Int64.reduceToInt, Int32.toInt_toInt64, lg_cmp_ge, lg_cmp_le, lg_cmp_gt, lg_cmp_lt, lg_cmp_eq, Bool.false_eq_true, Bool.true_eq_false, reduceCtorEq, false_iff, true_iff, iff_true, iff_false, and_true, true_and, and_false, false_and, reduceIte, ite_true, ite_false, eq_self] at *)) <;> omega)), trivial⟩
        · have mh12 := nle_mx h12
          refine wa_iload rfl ?_
          refine wa_aload_n (i := 0) rfl rfl ?_
          refine wa_geti ck_3 fl_3_52 ly_18 ?_
          refine wa_rw (khi11_1) ?_
          refine wa_icmp_ge o_X3_scan_179 (by decide) (fun h15 => ?_) (fun h15 => ?_)
          · refine wa_aload_n (i := 0) rfl rfl ?_
            refine wa_getr ck_3 fl_3_15 ly_18 rf_18_1 ?_
            refine wa_aload_n (i := 0) rfl rfl ?_
            refine wa_geti ck_3 fl_3_48 ly_18 ?_
            refine wa_iconst (v := 0) (by decide) ?_
            refine wa_iast ly_20 (by ((try simp only [vp_in_iff, Int32.lt_iff_toInt_lt, Int32.le_iff_toInt_le, ← Int32.toInt_inj, Int32.reduceToInt, n_1, n_2, n_8, Int32.toNatClampNeg, Int64.lt_iff_toInt_lt, Int64.le_iff_toInt_le, ← Int64.toInt_inj, Int64.reduceToInt, Int32.toInt_toInt64, lg_cmp_ge, lg_cmp_le, lg_cmp_gt, lg_cmp_lt, lg_cmp_eq, Bool.false_eq_true, Bool.true_eq_false, reduceCtorEq, false_iff, true_iff, iff_true, iff_false, and_true, true_and, and_false, false_and, reduceIte, ite_true, ite_false, eq_self] at *)) <;> omega) (fun s16 hs16 => ?_)
            have Fs16 : Sm 18 24 σ s16 := by rw [hs16]; exact Sm.si Fs9 _ _ (by decide) (by decide)
            refine wa_aload_n (i := 0) rfl rfl ?_
            refine wa_getr ck_3 fl_3_19 ly_18 rf_18_2 ?_
            refine wa_aload_n (i := 0) rfl rfl ?_
            refine wa_geti ck_3 fl_3_48 ly_18 ?_
            refine wa_rw (nxq_gi_si hs16 (by decide)) ?_
            refine wa_iload_n (i := 3) rfl rfl ?_
            refine wa_iast ly_21 (by ((try simp only [vp_in_iff, Int32.lt_iff_toInt_lt, Int32.le_iff_toInt_le, ← Int32.toInt_inj, Int32.reduceToInt, n_1, n_2, n_8, Int32.toNatClampNeg, Int64.lt_iff_toInt_lt, Int64.le_iff_toInt_le, ← Int64.toInt_inj, Int64.reduceToInt, Int32.toInt_toInt64, lg_cmp_ge, lg_cmp_le, lg_cmp_gt, lg_cmp_lt, lg_cmp_eq, Bool.false_eq_true, Bool.true_eq_false, reduceCtorEq, false_iff, true_iff, iff_true, iff_false, and_true, true_and, and_false, false_and, reduceIte, ite_true, ite_false, eq_self] at *)) <;> omega) (fun s17 hs17 => ?_)
            have Fs17 : Sm 18 24 σ s17 := by rw [hs17]; exact Sm.si Fs16 _ _ (by decide) (by decide)
            refine wa_return (st := []) rfl rfl ?_
            exact ⟨Fs17, (by rw [(nxq_gi_si hs17 (by decide)).trans (nxq_gi_si hs16 (by decide))]; first | assumption | (((try simp only [vp_in_iff, Int32.lt_iff_toInt_lt, Int32.le_iff_toInt_le, ← Int32.toInt_inj, Int32.reduceToInt, n_1, n_2, n_8, Int32.toNatClampNeg, Int64.lt_iff_toInt_lt, Int64.le_iff_toInt_le, ← Int64.toInt_inj, Int64.reduceToInt, Int32.toInt_toInt64, lg_cmp_ge, lg_cmp_le, lg_cmp_gt, lg_cmp_lt, lg_cmp_eq, Bool.false_eq_true, Bool.true_eq_false, reduceCtorEq, false_iff, true_iff, iff_true, iff_false, and_true, true_and, and_false, false_and, reduceIte, ite_true, ite_false, eq_self] at *)) <;> omega)), trivial⟩
          · have mh15 := nle_mx h15
            refine wa_aload_n (i := 0) rfl rfl ?_
            refine wa_getr ck_3 fl_3_19 ly_18 rf_18_2 ?_
            refine wa_iload rfl ?_
            refine wa_iload rfl ?_
            refine wa_aload_n (i := 0) rfl rfl ?_
            refine wa_geti ck_3 fl_3_55 ly_18 ?_
            refine wa_rw (khi11_2) ?_
            refine wa_isub ?_
            refine wa_top (fun v18 hv18 => ?_)
            have tv18 := i_subT hv18
            clear hv18
            refine wa_iast ly_21 (by ((try simp only [vp_in_iff, Int32.lt_iff_toInt_lt, Int32.le_iff_toInt_le, ← Int32.toInt_inj, Int32.reduceToInt, n_1, n_2, n_8, Int32.toNatClampNeg, Int64.lt_iff_toInt_lt, Int64.le_iff_toInt_le, ← Int64.toInt_inj, Int64.reduceToInt, Int32.toInt_toInt64, lg_cmp_ge, lg_cmp_le, lg_cmp_gt, lg_cmp_lt, lg_cmp_eq, Bool.false_eq_true, Bool.true_eq_false, reduceCtorEq, false_iff, true_iff, iff_true, iff_false, and_true, true_and, and_false, false_and, reduceIte, ite_true, ite_false, eq_self] at *)) <;> omega) (fun s19 hs19 => ?_)
            have Fs19 : Sm 18 24 σ s19 := by rw [hs19]; exact Sm.si Fs9 _ _ (by decide) (by decide)
            refine wa_aload_n (i := 0) rfl rfl ?_
            refine wa_iload rfl ?_
            refine wa_Vi (d9 := d - 1) [.int _] [] (sp_X3_byteAt G (d := d - 1) (by omega) s19 _ (by rw [(nx_gr_si hs19).trans (khi11_0)]; first | assumption | exact Or.inl rfl | exact Or.inr rfl | (((try simp only [vp_in_iff, Int32.lt_iff_toInt_lt, Int32.le_iff_toInt_le, ← Int32.toInt_inj, Int32.reduceToInt, n_1, n_2, n_8, Int32.toNatClampNeg, Int64.lt_iff_toInt_lt, Int64.le_iff_toInt_le, ← Int64.toInt_inj, Int64.reduceToInt, Int32.toInt_toInt64, lg_cmp_ge, lg_cmp_le, lg_cmp_gt, lg_cmp_lt, lg_cmp_eq, Bool.false_eq_true, Bool.true_eq_false, reduceCtorEq, false_iff, true_iff, iff_true, iff_false, and_true, true_and, and_false, false_and, reduceIte, ite_true, ite_false, eq_self] at *)) <;> omega))) (rfl) rfl rfl (zr (by omega)) mk_X3_byteAt ly_18 ml_3_63 (Nat.le_of_ble_eq_true rfl) (fun x21 s20 hs20 => ?_)
            obtain ⟨zs20, -⟩ := pI hs20
            subst zs20
            refine wa_istoreD (lv' := [(8, .int x21), (0, .ref 18), (3, .int a2), (5, .int l5), (6, .int 14), (7, .int l7)]) (by decide) rfl ?_
            refine wa_iload rfl ?_
            refine wa_Si (d9 := d - 1) [.int _] [] (sp_X3_isLetter G (d := d - 1) (by omega) s19 _) (rfl) rfl rfl (zr (by omega)) mk_X3_isLetter ml_3_66 (Nat.le_of_ble_eq_true rfl) (fun x23 s22 hs22 => ?_)
            obtain ⟨bx23, ex23, zs22, -⟩ := pB hs22
            subst ex23
            subst zs22
            refine wa_if_eq o_X3_scan_108 (by decide) (fun h24 => ?_) (fun h24 => ?_)
            · replace h24 := bI_f (b := bx23) (rfl) h24
              refine wa_iload rfl ?_
              refine wa_Si (d9 := d - 1) [.int _] [] (sp_X3_isDigit G (d := d - 1) (by omega) s19 _) (rfl) rfl rfl (zr (by omega)) mk_X3_isDigit ml_3_74 (Nat.le_of_ble_eq_true rfl) (fun x26 s25 hs25 => ?_)
              obtain ⟨bx26, ex26, zs25, -⟩ := pB hs25
              subst ex26
              subst zs25
              refine wa_if_eq o_X3_scan_129 (by decide) (fun h27 => ?_) (fun h27 => ?_)
              · replace h27 := bI_f (b := bx26) (rfl) h27
                refine wa_aload_n (i := 0) rfl rfl ?_
                refine wa_iload rfl ?_
                refine wa_iload rfl ?_
                refine wa_Vi (d9 := d - 1) [.int _, .int _] [] (sp_X3_sign G (d := d - 1) (by omega) s19 _ _ (by rw [(nx_gr_si hs19).trans (khi11_0)]; first | assumption | exact Or.inl rfl | exact Or.inr rfl | (((try simp only [vp_in_iff, Int32.lt_iff_toInt_lt, Int32.le_iff_toInt_le, ← Int32.toInt_inj, Int32.reduceToInt, n_1, n_2, n_8, Int32.toNatClampNeg, Int64.lt_iff_toInt_lt, Int64.le_iff_toInt_le, ← Int64.toInt_inj, Int64.reduceToInt, Int32.toInt_toInt64, lg_cmp_ge, lg_cmp_le, lg_cmp_gt, lg_cmp_lt, lg_cmp_eq, Bool.false_eq_true, Bool.true_eq_false, reduceCtorEq, false_iff, true_iff, iff_true, iff_false, and_true, true_and, and_false, false_and, reduceIte, ite_true, ite_false, eq_self] at *)) <;> omega))) (rfl) rfl rfl (zr (by omega)) mk_X3_sign ly_18 ml_3_81 (Nat.le_of_ble_eq_true rfl) (fun x29 s28 hs28 => ?_)
                obtain ⟨fs28, cx29_1, cx29_2, -⟩ := pI hs28
                have Fs28 := Sm.tr Fs19 (Sm.wd fs28 (lo' := 18) (hi' := 24) (by decide) (by decide))
                refine wa_istoreD (lv' := [(5, .int x29), (8, .int x21), (0, .ref 18), (3, .int a2), (6, .int 14), (7, .int l7)]) (by decide) rfl ?_
                refine wa_aload_n (i := 0) rfl rfl ?_
                refine wa_iload rfl ?_
                refine wa_iconst (v := 1) (by decide) ?_
                refine wa_iadd ?_
                refine wa_top (fun v30 hv30 => ?_)
                have tv30 := i_addT hv30
                clear hv30
                refine wa_puti ck_3 fl_3_48 ly_18 (fun s31 hs31 => ?_)
                have Fs31 : Sm 18 24 σ s31 := by rw [hs31]; exact Sm.si Fs28 _ _ (by decide) (by decide)
                refine wa_aload_n (i := 0) rfl rfl ?_
                refine wa_getr ck_3 fl_3_15 ly_18 rf_18_1 ?_
                refine wa_iload rfl ?_
                refine wa_iald ly_20 (by ((try simp only [vp_in_iff, Int32.lt_iff_toInt_lt, Int32.le_iff_toInt_le, ← Int32.toInt_inj, Int32.reduceToInt, n_1, n_2, n_8, Int32.toNatClampNeg, Int64.lt_iff_toInt_lt, Int64.le_iff_toInt_le, ← Int64.toInt_inj, Int64.reduceToInt, Int32.toInt_toInt64, lg_cmp_ge, lg_cmp_le, lg_cmp_gt, lg_cmp_lt, lg_cmp_eq, Bool.false_eq_true, Bool.true_eq_false, reduceCtorEq, false_iff, true_iff, iff_true, iff_false, and_true, true_and, and_false, false_and, reduceIte, ite_true, ite_false, eq_self] at *)) <;> omega) ?_
                refine wa_iconst (v := 3) (by decide) ?_
                refine wa_icmp_ne o_X3_scan_165 (by decide) (fun h32 => ?_) (fun h32 => ?_)
                · refine wa_aload_n (i := 0) rfl rfl ?_
                  refine wa_iload rfl ?_
                  refine wa_Vi (d9 := d - 1) [.int _] [] (sp_X3_behindBlanks G (d := d - 1) (by omega) s31 _ (by rw [(nx_gr_si hs31).trans ((cx29_1).trans ((nx_gr_si hs19).trans (khi11_0)))]; first | assumption | exact Or.inl rfl | exact Or.inr rfl | (((try simp only [vp_in_iff, Int32.lt_iff_toInt_lt, Int32.le_iff_toInt_le, ← Int32.toInt_inj, Int32.reduceToInt, n_1, n_2, n_8, Int32.toNatClampNeg, Int64.lt_iff_toInt_lt, Int64.le_iff_toInt_le, ← Int64.toInt_inj, Int64.reduceToInt, Int32.toInt_toInt64, lg_cmp_ge, lg_cmp_le, lg_cmp_gt, lg_cmp_lt, lg_cmp_eq, Bool.false_eq_true, Bool.true_eq_false, reduceCtorEq, false_iff, true_iff, iff_true, iff_false, and_true, true_and, and_false, false_and, reduceIte, ite_true, ite_false, eq_self] at *)) <;> omega))) (rfl) rfl rfl (zr (by omega)) mk_X3_behindBlanks ly_18 ml_3_59 (Nat.le_of_ble_eq_true rfl) (fun x34 s33 hs33 => ?_)
                  obtain ⟨zs33, -⟩ := pI hs33
                  subst zs33
                  refine wa_istoreD (lv' := [(5, .int x34), (8, .int x21), (0, .ref 18), (3, .int a2), (6, .int 14), (7, .int l7)]) (by decide) rfl ?_
                  refine wa_iinc (v := (1)) (lv' := fun y35 => [(7, .int y35), (5, .int x34), (8, .int x21), (0, .ref 18), (3, .int a2), (6, .int 14)]) (by decide) rfl (by decide) (fun _ => rfl) (fun y35 hy35 => ?_)
                  have ty35 := i_addT hy35.symm
                  clear hy35
                  refine wa_goto o_X3_scan_46 (by decide) ?_
                  refine wa_pick [3, 4, 1, 5, 0] rfl ?_
                  exact ih10 _ (by ((try simp only [vp_in_iff, Int32.lt_iff_toInt_lt, Int32.le_iff_toInt_le, ← Int32.toInt_inj, Int32.reduceToInt, n_1, n_2, n_8, Int32.toNatClampNeg, Int64.lt_iff_toInt_lt, Int64.le_iff_toInt_le, ← Int64.toInt_inj, Int64.reduceToInt, Int32.toInt_toInt64, lg_cmp_ge, lg_cmp_le, lg_cmp_gt, lg_cmp_lt, lg_cmp_eq, Bool.false_eq_true, Bool.true_eq_false, reduceCtorEq, false_iff, true_iff, iff_true, iff_false, and_true, true_and, and_false, false_and, reduceIte, ite_true, ite_false, eq_self] at *)) <;> omega) _ _ _ ⟨Fs31, ((nx_gr_si hs31).trans ((cx29_1).trans ((nx_gr_si hs19).trans (khi11_0)))), ((nxk_gi_si hs31 (by decide)).trans ((Sm.gi fs28 8 (Or.inl (by decide))).trans ((nxq_gi_si hs19 (by decide)).trans (khi11_1)))), ((nxk_gi_si hs31 (by decide)).trans ((Sm.gi fs28 7 (Or.inl (by decide))).trans ((nxq_gi_si hs19 (by decide)).trans (khi11_2)))), (by ((try simp only [vp_in_iff, Int32.lt_iff_toInt_lt, Int32.le_iff_toInt_le, ← Int32.toInt_inj, Int32.reduceToInt, n_1, n_2, n_8, Int32.toNatClampNeg, Int64.lt_iff_toInt_lt, Int64.le_iff_toInt_le, ← Int64.toInt_inj, Int64.reduceToInt, Int32.toInt_toInt64, lg_cmp_ge, lg_cmp_le, lg_cmp_gt, lg_cmp_lt, lg_cmp_eq, Bool.false_eq_true, Bool.true_eq_false, reduceCtorEq, false_iff, true_iff, iff_true, iff_false, and_true, true_and, and_false, false_and, reduceIte, ite_true, ite_false, eq_self] at *)) <;> omega), (by rw [nxe_gi_si hs31]; first | assumption | (((try simp only [vp_in_iff, Int32.lt_iff_toInt_lt, Int32.le_iff_toInt_le, ← Int32.toInt_inj, Int32.reduceToInt, n_1, n_2, n_8, Int32.toNatClampNeg, Int64.lt_iff_toInt_lt, Int64.le_iff_toInt_le, ← Int64.toInt_inj, Int64.reduceToInt, Int32.toInt_toInt64, lg_cmp_ge, lg_cmp_le, lg_cmp_gt, lg_cmp_lt, lg_cmp_eq, Bool.false_eq_true, Bool.true_eq_false, reduceCtorEq, false_iff, true_iff, iff_true, iff_false, and_true, true_and, and_false, false_and, reduceIte, ite_true, ite_false, eq_self] at *)) <;> omega)), trivial⟩ rfl
                · refine wa_aload_n (i := 0) rfl rfl ?_
                  refine wa_geti ck_3 fl_3_52 ly_18 ?_
                  refine wa_rw ((nxk_gi_si hs31 (by decide)).trans ((Sm.gi fs28 8 (Or.inl (by decide))).trans ((nxq_gi_si hs19 (by decide)).trans (khi11_1)))) ?_
                  refine wa_goto o_X3_scan_171 (by decide) ?_
                  refine wa_istoreD (lv' := [(5, .int v3), (8, .int x21), (0, .ref 18), (3, .int a2), (6, .int 14), (7, .int l7)]) (by decide) rfl ?_
                  refine wa_iinc (v := (1)) (lv' := fun y36 => [(7, .int y36), (5, .int v3), (8, .int x21), (0, .ref 18), (3, .int a2), (6, .int 14)]) (by decide) rfl (by decide) (fun _ => rfl) (fun y36 hy36 => ?_)
                  have ty36 := i_addT hy36.symm
                  clear hy36
                  refine wa_goto o_X3_scan_46 (by decide) ?_
                  refine wa_pick [3, 4, 1, 5, 0] rfl ?_
                  exact ih10 _ (by ((try simp only [vp_in_iff, Int32.lt_iff_toInt_lt, Int32.le_iff_toInt_le, ← Int32.toInt_inj, Int32.reduceToInt, n_1, n_2, n_8, Int32.toNatClampNeg, Int64.lt_iff_toInt_lt, Int64.le_iff_toInt_le, ← Int64.toInt_inj, Int64.reduceToInt, Int32.toInt_toInt64, lg_cmp_ge, lg_cmp_le, lg_cmp_gt, lg_cmp_lt, lg_cmp_eq, Bool.false_eq_true, Bool.true_eq_false, reduceCtorEq, false_iff, true_iff, iff_true, iff_false, and_true, true_and, and_false, false_and, reduceIte, ite_true, ite_false, eq_self] at *)) <;> omega) _ _ _ ⟨Fs31, ((nx_gr_si hs31).trans ((cx29_1).trans ((nx_gr_si hs19).trans (khi11_0)))), ((nxk_gi_si hs31 (by decide)).trans ((Sm.gi fs28 8 (Or.inl (by decide))).trans ((nxq_gi_si hs19 (by decide)).trans (khi11_1)))), ((nxk_gi_si hs31 (by decide)).trans ((Sm.gi fs28 7 (Or.inl (by decide))).trans ((nxq_gi_si hs19 (by decide)).trans (khi11_2)))), (by ((try simp only [vp_in_iff, Int32.lt_iff_toInt_lt, Int32.le_iff_toInt_le, ← Int32.toInt_inj, Int32.reduceToInt, n_1, n_2, n_8, Int32.toNatClampNeg, Int64.lt_iff_toInt_lt, Int64.le_iff_toInt_le, ← Int64.toInt_inj, Int64.reduceToInt, Int32.toInt_toInt64, lg_cmp_ge, lg_cmp_le, lg_cmp_gt, lg_cmp_lt, lg_cmp_eq, Bool.false_eq_true, Bool.true_eq_false, reduceCtorEq, false_iff, true_iff, iff_true, iff_false, and_true, true_and, and_false, false_and, reduceIte, ite_true, ite_false, eq_self] at *)) <;> omega), (by rw [nxe_gi_si hs31]; first | assumption | (((try simp only [vp_in_iff, Int32.lt_iff_toInt_lt, Int32.le_iff_toInt_le, ← Int32.toInt_inj, Int32.reduceToInt, n_1, n_2, n_8, Int32.toNatClampNeg, Int64.lt_iff_toInt_lt, Int64.le_iff_toInt_le, ← Int64.toInt_inj, Int64.reduceToInt, Int32.toInt_toInt64, lg_cmp_ge, lg_cmp_le, lg_cmp_gt, lg_cmp_lt, lg_cmp_eq, Bool.false_eq_true, Bool.true_eq_false, reduceCtorEq, false_iff, true_iff, iff_true, iff_false, and_true, true_and, and_false, false_and, reduceIte, ite_true, ite_false, eq_self] at *)) <;> omega)), trivial⟩ rfl
              · replace h27 := bI_t (b := bx26) (rfl) h27
                refine wa_aload_n (i := 0) rfl rfl ?_
                refine wa_iload rfl ?_
                refine wa_iload rfl ?_
                refine wa_Vi (d9 := d - 1) [.int _, .int _] [] (sp_X3_digits G (d := d - 1) (by omega) s19 _ _ (by rw [(nx_gr_si hs19).trans (khi11_0)]; first | assumption | exact Or.inl rfl | exact Or.inr rfl | (((try simp only [vp_in_iff, Int32.lt_iff_toInt_lt, Int32.le_iff_toInt_le, ← Int32.toInt_inj, Int32.reduceToInt, n_1, n_2, n_8, Int32.toNatClampNeg, Int64.lt_iff_toInt_lt, Int64.le_iff_toInt_le, ← Int64.toInt_inj, Int64.reduceToInt, Int32.toInt_toInt64, lg_cmp_ge, lg_cmp_le, lg_cmp_gt, lg_cmp_lt, lg_cmp_eq, Bool.false_eq_true, Bool.true_eq_false, reduceCtorEq, false_iff, true_iff, iff_true, iff_false, and_true, true_and, and_false, false_and, reduceIte, ite_true, ite_false, eq_self] at *)) <;> omega))) (rfl) rfl rfl (zr (by omega)) mk_X3_digits ly_18 ml_3_77 (Nat.le_of_ble_eq_true rfl) (fun x38 s37 hs37 => ?_)
                obtain ⟨fs37, cx38_1, cx38_2, -⟩ := pI hs37
                have Fs37 := Sm.tr Fs19 (Sm.wd fs37 (lo' := 18) (hi' := 24) (by decide) (by decide))
                refine wa_istoreD (lv' := [(5, .int x38), (8, .int x21), (0, .ref 18), (3, .int a2), (6, .int 14), (7, .int l7)]) (by decide) rfl ?_
                refine wa_goto o_X3_scan_139 (by decide) ?_
                refine wa_aload_n (i := 0) rfl rfl ?_
                refine wa_iload rfl ?_
                refine wa_iconst (v := 1) (by decide) ?_
                refine wa_iadd ?_
                refine wa_top (fun v39 hv39 => ?_)
                have tv39 := i_addT hv39
                clear hv39
                refine wa_puti ck_3 fl_3_48 ly_18 (fun s40 hs40 => ?_)
                have Fs40 : Sm 18 24 σ s40 := by rw [hs40]; exact Sm.si Fs37 _ _ (by decide) (by decide)
                refine wa_aload_n (i := 0) rfl rfl ?_
                refine wa_getr ck_3 fl_3_15 ly_18 rf_18_1 ?_
                refine wa_iload rfl ?_
                refine wa_iald ly_20 (by ((try simp only [vp_in_iff, Int32.lt_iff_toInt_lt, Int32.le_iff_toInt_le, ← Int32.toInt_inj, Int32.reduceToInt, n_1, n_2, n_8, Int32.toNatClampNeg, Int64.lt_iff_toInt_lt, Int64.le_iff_toInt_le, ← Int64.toInt_inj, Int64.reduceToInt, Int32.toInt_toInt64, lg_cmp_ge, lg_cmp_le, lg_cmp_gt, lg_cmp_lt, lg_cmp_eq, Bool.false_eq_true, Bool.true_eq_false, reduceCtorEq, false_iff, true_iff, iff_true, iff_false, and_true, true_and, and_false, false_and, reduceIte, ite_true, ite_false, eq_self] at *)) <;> omega) ?_
                refine wa_iconst (v := 3) (by decide) ?_
                refine wa_icmp_ne o_X3_scan_165 (by decide) (fun h41 => ?_) (fun h41 => ?_)
                · refine wa_aload_n (i := 0) rfl rfl ?_
                  refine wa_iload rfl ?_
                  refine wa_Vi (d9 := d - 1) [.int _] [] (sp_X3_behindBlanks G (d := d - 1) (by omega) s40 _ (by rw [(nx_gr_si hs40).trans ((cx38_1).trans ((nx_gr_si hs19).trans (khi11_0)))]; first | assumption | exact Or.inl rfl | exact Or.inr rfl | (((try simp only [vp_in_iff, Int32.lt_iff_toInt_lt, Int32.le_iff_toInt_le, ← Int32.toInt_inj, Int32.reduceToInt, n_1, n_2, n_8, Int32.toNatClampNeg, Int64.lt_iff_toInt_lt, Int64.le_iff_toInt_le, ← Int64.toInt_inj, Int64.reduceToInt, Int32.toInt_toInt64, lg_cmp_ge, lg_cmp_le, lg_cmp_gt, lg_cmp_lt, lg_cmp_eq, Bool.false_eq_true, Bool.true_eq_false, reduceCtorEq, false_iff, true_iff, iff_true, iff_false, and_true, true_and, and_false, false_and, reduceIte, ite_true, ite_false, eq_self] at *)) <;> omega))) (rfl) rfl rfl (zr (by omega)) mk_X3_behindBlanks ly_18 ml_3_59 (Nat.le_of_ble_eq_true rfl) (fun x43 s42 hs42 => ?_)
                  obtain ⟨zs42, -⟩ := pI hs42
                  subst zs42
                  refine wa_istoreD (lv' := [(5, .int x43), (8, .int x21), (0, .ref 18), (3, .int a2), (6, .int 14), (7, .int l7)]) (by decide) rfl ?_
                  refine wa_iinc (v := (1)) (lv' := fun y44 => [(7, .int y44), (5, .int x43), (8, .int x21), (0, .ref 18), (3, .int a2), (6, .int 14)]) (by decide) rfl (by decide) (fun _ => rfl) (fun y44 hy44 => ?_)
                  have ty44 := i_addT hy44.symm
                  clear hy44
                  refine wa_goto o_X3_scan_46 (by decide) ?_
                  refine wa_pick [3, 4, 1, 5, 0] rfl ?_
                  exact ih10 _ (by ((try simp only [vp_in_iff, Int32.lt_iff_toInt_lt, Int32.le_iff_toInt_le, ← Int32.toInt_inj, Int32.reduceToInt, n_1, n_2, n_8, Int32.toNatClampNeg, Int64.lt_iff_toInt_lt, Int64.le_iff_toInt_le, ← Int64.toInt_inj, Int64.reduceToInt, Int32.toInt_toInt64, lg_cmp_ge, lg_cmp_le, lg_cmp_gt, lg_cmp_lt, lg_cmp_eq, Bool.false_eq_true, Bool.true_eq_false, reduceCtorEq, false_iff, true_iff, iff_true, iff_false, and_true, true_and, and_false, false_and, reduceIte, ite_true, ite_false, eq_self] at *)) <;> omega) _ _ _ ⟨Fs40, ((nx_gr_si hs40).trans ((cx38_1).trans ((nx_gr_si hs19).trans (khi11_0)))), ((nxk_gi_si hs40 (by decide)).trans ((Sm.gi fs37 8 (Or.inl (by decide))).trans ((nxq_gi_si hs19 (by decide)).trans (khi11_1)))), ((nxk_gi_si hs40 (by decide)).trans ((Sm.gi fs37 7 (Or.inl (by decide))).trans ((nxq_gi_si hs19 (by decide)).trans (khi11_2)))), (by ((try simp only [vp_in_iff, Int32.lt_iff_toInt_lt, Int32.le_iff_toInt_le, ← Int32.toInt_inj, Int32.reduceToInt, n_1, n_2, n_8, Int32.toNatClampNeg, Int64.lt_iff_toInt_lt, Int64.le_iff_toInt_le, ← Int64.toInt_inj, Int64.reduceToInt, Int32.toInt_toInt64, lg_cmp_ge, lg_cmp_le, lg_cmp_gt, lg_cmp_lt, lg_cmp_eq, Bool.false_eq_true, Bool.true_eq_false, reduceCtorEq, false_iff, true_iff, iff_true, iff_false, and_true, true_and, and_false, false_and, reduceIte, ite_true, ite_false, eq_self] at *)) <;> omega), (by rw [nxe_gi_si hs40]; first | assumption | (((try simp only [vp_in_iff, Int32.lt_iff_toInt_lt, Int32.le_iff_toInt_le, ← Int32.toInt_inj, Int32.reduceToInt, n_1, n_2, n_8, Int32.toNatClampNeg, Int64.lt_iff_toInt_lt, Int64.le_iff_toInt_le, ← Int64.toInt_inj, Int64.reduceToInt, Int32.toInt_toInt64, lg_cmp_ge, lg_cmp_le, lg_cmp_gt, lg_cmp_lt, lg_cmp_eq, Bool.false_eq_true, Bool.true_eq_false, reduceCtorEq, false_iff, true_iff, iff_true, iff_false, and_true, true_and, and_false, false_and, reduceIte, ite_true, ite_false, eq_self] at *)) <;> omega)), trivial⟩ rfl
                · refine wa_aload_n (i := 0) rfl rfl ?_
                  refine wa_geti ck_3 fl_3_52 ly_18 ?_
                  refine wa_rw ((nxk_gi_si hs40 (by decide)).trans ((Sm.gi fs37 8 (Or.inl (by decide))).trans ((nxq_gi_si hs19 (by decide)).trans (khi11_1)))) ?_
                  refine wa_goto o_X3_scan_171 (by decide) ?_
                  refine wa_istoreD (lv' := [(5, .int v3), (8, .int x21), (0, .ref 18), (3, .int a2), (6, .int 14), (7, .int l7)]) (by decide) rfl ?_
                  refine wa_iinc (v := (1)) (lv' := fun y45 => [(7, .int y45), (5, .int v3), (8, .int x21), (0, .ref 18), (3, .int a2), (6, .int 14)]) (by decide) rfl (by decide) (fun _ => rfl) (fun y45 hy45 => ?_)
                  have ty45 := i_addT hy45.symm
                  clear hy45
                  refine wa_goto o_X3_scan_46 (by decide) ?_
                  refine wa_pick [3, 4, 1, 5, 0] rfl ?_
                  exact ih10 _ (by ((try simp only [vp_in_iff, Int32.lt_iff_toInt_lt, Int32.le_iff_toInt_le, ← Int32.toInt_inj, Int32.reduceToInt, n_1, n_2, n_8, Int32.toNatClampNeg, Int64.lt_iff_toInt_lt, Int64.le_iff_toInt_le, ← Int64.toInt_inj, Int64.reduceToInt, Int32.toInt_toInt64, lg_cmp_ge, lg_cmp_le, lg_cmp_gt, lg_cmp_lt, lg_cmp_eq, Bool.false_eq_true, Bool.true_eq_false, reduceCtorEq, false_iff, true_iff, iff_true, iff_false, and_true, true_and, and_false, false_and, reduceIte, ite_true, ite_false, eq_self] at *)) <;> omega) _ _ _ ⟨Fs40, ((nx_gr_si hs40).trans ((cx38_1).trans ((nx_gr_si hs19).trans (khi11_0)))), ((nxk_gi_si hs40 (by decide)).trans ((Sm.gi fs37 8 (Or.inl (by decide))).trans ((nxq_gi_si hs19 (by decide)).trans (khi11_1)))), ((nxk_gi_si hs40 (by decide)).trans ((Sm.gi fs37 7 (Or.inl (by decide))).trans ((nxq_gi_si hs19 (by decide)).trans (khi11_2)))), (by ((try simp only [vp_in_iff, Int32.lt_iff_toInt_lt, Int32.le_iff_toInt_le, ← Int32.toInt_inj, Int32.reduceToInt, n_1, n_2, n_8, Int32.toNatClampNeg, Int64.lt_iff_toInt_lt, Int64.le_iff_toInt_le, ← Int64.toInt_inj, Int64.reduceToInt, Int32.toInt_toInt64, lg_cmp_ge, lg_cmp_le, lg_cmp_gt, lg_cmp_lt, lg_cmp_eq, Bool.false_eq_true, Bool.true_eq_false, reduceCtorEq, false_iff, true_iff, iff_true, iff_false, and_true, true_and, and_false, false_and, reduceIte, ite_true, ite_false, eq_self] at *)) <;> omega), (by rw [nxe_gi_si hs40]; first | assumption | (((try simp only [vp_in_iff, Int32.lt_iff_toInt_lt, Int32.le_iff_toInt_le, ← Int32.toInt_inj, Int32.reduceToInt, n_1, n_2, n_8, Int32.toNatClampNeg, Int64.lt_iff_toInt_lt, Int64.le_iff_toInt_le, ← Int64.toInt_inj, Int64.reduceToInt, Int32.toInt_toInt64, lg_cmp_ge, lg_cmp_le, lg_cmp_gt, lg_cmp_lt, lg_cmp_eq, Bool.false_eq_true, Bool.true_eq_false, reduceCtorEq, false_iff, true_iff, iff_true, iff_false, and_true, true_and, and_false, false_and, reduceIte, ite_true, ite_false, eq_self] at *)) <;> omega)), trivial⟩ rfl
            · replace h24 := bI_t (b := bx23) (rfl) h24
              refine wa_aload_n (i := 0) rfl rfl ?_
              refine wa_iload rfl ?_
              refine wa_iload rfl ?_
              refine wa_iload rfl ?_
              refine wa_Vi (d9 := d - 1) [.int _, .int _, .int _] [] (sp_X3_word G (d := d - 1) (by omega) s19 _ _ _ (by rw [(nx_gr_si hs19).trans (khi11_0)]; first | assumption | exact Or.inl rfl | exact Or.inr rfl | (((try simp only [vp_in_iff, Int32.lt_iff_toInt_lt, Int32.le_iff_toInt_le, ← Int32.toInt_inj, Int32.reduceToInt, n_1, n_2, n_8, Int32.toNatClampNeg, Int64.lt_iff_toInt_lt, Int64.le_iff_toInt_le, ← Int64.toInt_inj, Int64.reduceToInt, Int32.toInt_toInt64, lg_cmp_ge, lg_cmp_le, lg_cmp_gt, lg_cmp_lt, lg_cmp_eq, Bool.false_eq_true, Bool.true_eq_false, reduceCtorEq, false_iff, true_iff, iff_true, iff_false, and_true, true_and, and_false, false_and, reduceIte, ite_true, ite_false, eq_self] at *)) <;> omega))) (rfl) rfl rfl (zr (by omega)) mk_X3_word ly_18 ml_3_70 (Nat.le_of_ble_eq_true rfl) (fun x47 s46 hs46 => ?_)
              obtain ⟨fs46, cx47_1, cx47_2, -⟩ := pI hs46
              have Fs46 := Sm.tr Fs19 (Sm.wd fs46 (lo' := 18) (hi' := 24) (by decide) (by decide))
              refine wa_istoreD (lv' := [(5, .int x47), (8, .int x21), (0, .ref 18), (3, .int a2), (6, .int 14), (7, .int l7)]) (by decide) rfl ?_
              refine wa_goto o_X3_scan_139 (by decide) ?_
              refine wa_aload_n (i := 0) rfl rfl ?_
              refine wa_iload rfl ?_
              refine wa_iconst (v := 1) (by decide) ?_
              refine wa_iadd ?_
              refine wa_top (fun v48 hv48 => ?_)
              have tv48 := i_addT hv48
              clear hv48
              refine wa_puti ck_3 fl_3_48 ly_18 (fun s49 hs49 => ?_)
              have Fs49 : Sm 18 24 σ s49 := by rw [hs49]; exact Sm.si Fs46 _ _ (by decide) (by decide)
              refine wa_aload_n (i := 0) rfl rfl ?_
              refine wa_getr ck_3 fl_3_15 ly_18 rf_18_1 ?_
              refine wa_iload rfl ?_
              refine wa_iald ly_20 (by ((try simp only [vp_in_iff, Int32.lt_iff_toInt_lt, Int32.le_iff_toInt_le, ← Int32.toInt_inj, Int32.reduceToInt, n_1, n_2, n_8, Int32.toNatClampNeg, Int64.lt_iff_toInt_lt, Int64.le_iff_toInt_le, ← Int64.toInt_inj, Int64.reduceToInt, Int32.toInt_toInt64, lg_cmp_ge, lg_cmp_le, lg_cmp_gt, lg_cmp_lt, lg_cmp_eq, Bool.false_eq_true, Bool.true_eq_false, reduceCtorEq, false_iff, true_iff, iff_true, iff_false, and_true, true_and, and_false, false_and, reduceIte, ite_true, ite_false, eq_self] at *)) <;> omega) ?_
              refine wa_iconst (v := 3) (by decide) ?_
              refine wa_icmp_ne o_X3_scan_165 (by decide) (fun h50 => ?_) (fun h50 => ?_)
              · refine wa_aload_n (i := 0) rfl rfl ?_
                refine wa_iload rfl ?_
                refine wa_Vi (d9 := d - 1) [.int _] [] (sp_X3_behindBlanks G (d := d - 1) (by omega) s49 _ (by rw [(nx_gr_si hs49).trans ((cx47_1).trans ((nx_gr_si hs19).trans (khi11_0)))]; first | assumption | exact Or.inl rfl | exact Or.inr rfl | (((try simp only [vp_in_iff, Int32.lt_iff_toInt_lt, Int32.le_iff_toInt_le, ← Int32.toInt_inj, Int32.reduceToInt, n_1, n_2, n_8, Int32.toNatClampNeg, Int64.lt_iff_toInt_lt, Int64.le_iff_toInt_le, ← Int64.toInt_inj, Int64.reduceToInt, Int32.toInt_toInt64, lg_cmp_ge, lg_cmp_le, lg_cmp_gt, lg_cmp_lt, lg_cmp_eq, Bool.false_eq_true, Bool.true_eq_false, reduceCtorEq, false_iff, true_iff, iff_true, iff_false, and_true, true_and, and_false, false_and, reduceIte, ite_true, ite_false, eq_self] at *)) <;> omega))) (rfl) rfl rfl (zr (by omega)) mk_X3_behindBlanks ly_18 ml_3_59 (Nat.le_of_ble_eq_true rfl) (fun x52 s51 hs51 => ?_)
                obtain ⟨zs51, -⟩ := pI hs51
                subst zs51
                refine wa_istoreD (lv' := [(5, .int x52), (8, .int x21), (0, .ref 18), (3, .int a2), (6, .int 14), (7, .int l7)]) (by decide) rfl ?_
                refine wa_iinc (v := (1)) (lv' := fun y53 => [(7, .int y53), (5, .int x52), (8, .int x21), (0, .ref 18), (3, .int a2), (6, .int 14)]) (by decide) rfl (by decide) (fun _ => rfl) (fun y53 hy53 => ?_)
                have ty53 := i_addT hy53.symm
                clear hy53
                refine wa_goto o_X3_scan_46 (by decide) ?_
                refine wa_pick [3, 4, 1, 5, 0] rfl ?_
                exact ih10 _ (by ((try simp only [vp_in_iff, Int32.lt_iff_toInt_lt, Int32.le_iff_toInt_le, ← Int32.toInt_inj, Int32.reduceToInt, n_1, n_2, n_8, Int32.toNatClampNeg, Int64.lt_iff_toInt_lt, Int64.le_iff_toInt_le, ← Int64.toInt_inj, Int64.reduceToInt, Int32.toInt_toInt64, lg_cmp_ge, lg_cmp_le, lg_cmp_gt, lg_cmp_lt, lg_cmp_eq, Bool.false_eq_true, Bool.true_eq_false, reduceCtorEq, false_iff, true_iff, iff_true, iff_false, and_true, true_and, and_false, false_and, reduceIte, ite_true, ite_false, eq_self] at *)) <;> omega) _ _ _ ⟨Fs49, ((nx_gr_si hs49).trans ((cx47_1).trans ((nx_gr_si hs19).trans (khi11_0)))), ((nxk_gi_si hs49 (by decide)).trans ((Sm.gi fs46 8 (Or.inl (by decide))).trans ((nxq_gi_si hs19 (by decide)).trans (khi11_1)))), ((nxk_gi_si hs49 (by decide)).trans ((Sm.gi fs46 7 (Or.inl (by decide))).trans ((nxq_gi_si hs19 (by decide)).trans (khi11_2)))), (by ((try simp only [vp_in_iff, Int32.lt_iff_toInt_lt, Int32.le_iff_toInt_le, ← Int32.toInt_inj, Int32.reduceToInt, n_1, n_2, n_8, Int32.toNatClampNeg, Int64.lt_iff_toInt_lt, Int64.le_iff_toInt_le, ← Int64.toInt_inj, Int64.reduceToInt, Int32.toInt_toInt64, lg_cmp_ge, lg_cmp_le, lg_cmp_gt, lg_cmp_lt, lg_cmp_eq, Bool.false_eq_true, Bool.true_eq_false, reduceCtorEq, false_iff, true_iff, iff_true, iff_false, and_true, true_and, and_false, false_and, reduceIte, ite_true, ite_false, eq_self] at *)) <;> omega), (by rw [nxe_gi_si hs49]; first | assumption | (((try simp only [vp_in_iff, Int32.lt_iff_toInt_lt, Int32.le_iff_toInt_le, ← Int32.toInt_inj, Int32.reduceToInt, n_1, n_2, n_8, Int32.toNatClampNeg, Int64.lt_iff_toInt_lt, Int64.le_iff_toInt_le, ← Int64.toInt_inj, Int64.reduceToInt, Int32.toInt_toInt64, lg_cmp_ge, lg_cmp_le, lg_cmp_gt, lg_cmp_lt, lg_cmp_eq, Bool.false_eq_true, Bool.true_eq_false, reduceCtorEq, false_iff, true_iff, iff_true, iff_false, and_true, true_and, and_false, false_and, reduceIte, ite_true, ite_false, eq_self] at *)) <;> omega)), trivial⟩ rfl
              · refine wa_aload_n (i := 0) rfl rfl ?_
                refine wa_geti ck_3 fl_3_52 ly_18 ?_
                refine wa_rw ((nxk_gi_si hs49 (by decide)).trans ((Sm.gi fs46 8 (Or.inl (by decide))).trans ((nxq_gi_si hs19 (by decide)).trans (khi11_1)))) ?_
                refine wa_goto o_X3_scan_171 (by decide) ?_
                refine wa_istoreD (lv' := [(5, .int v3), (8, .int x21), (0, .ref 18), (3, .int a2), (6, .int 14), (7, .int l7)]) (by decide) rfl ?_
                refine wa_iinc (v := (1)) (lv' := fun y54 => [(7, .int y54), (5, .int v3), (8, .int x21), (0, .ref 18), (3, .int a2), (6, .int 14)]) (by decide) rfl (by decide) (fun _ => rfl) (fun y54 hy54 => ?_)
                have ty54 := i_addT hy54.symm
                clear hy54
                refine wa_goto o_X3_scan_46 (by decide) ?_
                refine wa_pick [3, 4, 1, 5, 0] rfl ?_
                exact ih10 _ (by ((try simp only [vp_in_iff, Int32.lt_iff_toInt_lt, Int32.le_iff_toInt_le, ← Int32.toInt_inj, Int32.reduceToInt, n_1, n_2, n_8, Int32.toNatClampNeg, Int64.lt_iff_toInt_lt, Int64.le_iff_toInt_le, ← Int64.toInt_inj, Int64.reduceToInt, Int32.toInt_toInt64, lg_cmp_ge, lg_cmp_le, lg_cmp_gt, lg_cmp_lt, lg_cmp_eq, Bool.false_eq_true, Bool.true_eq_false, reduceCtorEq, false_iff, true_iff, iff_true, iff_false, and_true, true_and, and_false, false_and, reduceIte, ite_true, ite_false, eq_self] at *)) <;> omega) _ _ _ ⟨Fs49, ((nx_gr_si hs49).trans ((cx47_1).trans ((nx_gr_si hs19).trans (khi11_0)))), ((nxk_gi_si hs49 (by decide)).trans ((Sm.gi fs46 8 (Or.inl (by decide))).trans ((nxq_gi_si hs19 (by decide)).trans (khi11_1)))), ((nxk_gi_si hs49 (by decide)).trans ((Sm.gi fs46 7 (Or.inl (by decide))).trans ((nxq_gi_si hs19 (by decide)).trans (khi11_2)))), (by ((try simp only [vp_in_iff, Int32.lt_iff_toInt_lt, Int32.le_iff_toInt_le, ← Int32.toInt_inj, Int32.reduceToInt, n_1, n_2, n_8, Int32.toNatClampNeg, Int64.lt_iff_toInt_lt, Int64.le_iff_toInt_le, ← Int64.toInt_inj, Int64.reduceToInt, Int32.toInt_toInt64, lg_cmp_ge, lg_cmp_le, lg_cmp_gt, lg_cmp_lt, lg_cmp_eq, Bool.false_eq_true, Bool.true_eq_false, reduceCtorEq, false_iff, true_iff, iff_true, iff_false, and_true, true_and, and_false, false_and, reduceIte, ite_true, ite_false, eq_self] at *)) <;> omega), (by rw [nxe_gi_si hs49]; first | assumption | (((try simp only [vp_in_iff, Int32.lt_iff_toInt_lt, Int32.le_iff_toInt_le, ← Int32.toInt_inj, Int32.reduceToInt, n_1, n_2, n_8, Int32.toNatClampNeg, Int64.lt_iff_toInt_lt, Int64.le_iff_toInt_le, ← Int64.toInt_inj, Int64.reduceToInt, Int32.toInt_toInt64, lg_cmp_ge, lg_cmp_le, lg_cmp_gt, lg_cmp_lt, lg_cmp_eq, Bool.false_eq_true, Bool.true_eq_false, reduceCtorEq, false_iff, true_iff, iff_true, iff_false, and_true, true_and, and_false, false_and, reduceIte, ite_true, ite_false, eq_self] at *)) <;> omega)), trivial⟩ rfl
    exact hi11 _ _ _ _ ⟨Fs5, ((nx_gr_si hs5).trans ((nx_gr_si hs4).trans ((nx_gr_si hs2).trans (nxe_gr_sr hs1)))), ((nxk_gi_si hs5 (by decide)).trans (nxe_gi_si hs4)), ((nxk_gi_si hs5 (by decide)).trans ((nxk_gi_si hs4 (by decide)).trans (nxe_gi_si hs2))), (by ((try simp only [vp_in_iff, Int32.lt_iff_toInt_lt, Int32.le_iff_toInt_le, ← Int32.toInt_inj, Int32.reduceToInt, n_1, n_2, n_8, Int32.toNatClampNeg, Int64.lt_iff_toInt_lt, Int64.le_iff_toInt_le, ← Int64.toInt_inj, Int64.reduceToInt, Int32.toInt_toInt64, lg_cmp_ge, lg_cmp_le, lg_cmp_gt, lg_cmp_lt, lg_cmp_eq, Bool.false_eq_true, Bool.true_eq_false, reduceCtorEq, false_iff, true_iff, iff_true, iff_false, and_true, true_and, and_false, false_and, reduceIte, ite_true, ite_false, eq_self] at *)) <;> omega), (by rw [nxe_gi_si hs5]; first | assumption | (((try simp only [vp_in_iff, Int32.lt_iff_toInt_lt, Int32.le_iff_toInt_le, ← Int32.toInt_inj, Int32.reduceToInt, n_1, n_2, n_8, Int32.toNatClampNeg, Int64.lt_iff_toInt_lt, Int64.le_iff_toInt_le, ← Int64.toInt_inj, Int64.reduceToInt, Int32.toInt_toInt64, lg_cmp_ge, lg_cmp_le, lg_cmp_gt, lg_cmp_lt, lg_cmp_eq, Bool.false_eq_true, Bool.true_eq_false, reduceCtorEq, false_iff, true_iff, iff_true, iff_false, and_true, true_and, and_false, false_and, reduceIte, ite_true, ite_false, eq_self] at *)) <;> omega)), trivial⟩ rfl
  · replace h8 := bI_t (b := a3) (rfl) h8
    refine wa_bipush (v := 20) (by decide) ?_
    refine wa_goto o_X3_scan_41 (by decide) ?_
    refine wa_istoreD (lv' := [(6, .int 20), (5, .int x7), (0, .ref 18), (1, .ref 6), (2, .int a1), (3, .int a2), (4, .int (bI a3))]) (by decide) rfl ?_
    refine wa_iconst (v := 0) (by decide) ?_
    refine wa_istoreD (lv' := [(7, .int 0), (6, .int 20), (5, .int x7), (0, .ref 18), (1, .ref 6), (2, .int a1), (3, .int a2), (4, .int (bI a3))]) (by decide) rfl ?_
    refine wa_pick [3, 6, 2, 1, 0] rfl ?_
    have hi57 : ∀ (n9_46 : Nat) (l5 : Int32) (l7 : Int32) (s55 : St), ((Sm 18 24 σ s55) ∧ (gr s55 18 6 = 6) ∧ (gi s55 18 8 = v3) ∧ (gi s55 18 7 = a1) ∧ (0 ≤ l7.toInt) ∧ (0 ≤ (gi s55 18 5).toInt ∧ (gi s55 18 5).toInt ≤ 2000) ∧ (True)) → (2147483647 - l7.toInt).toNat = n9_46 → WA G M_X3_scan (ZM G M_X3_scan d (fun r σ' => Sm 18 24 σ σ' ∧ ((gi σ' 18 5).toInt ≤ 2000) ∧ True)) B_X3_scan_46 [(0, .ref 18), (3, .int a2), (5, .int l5), (6, .int 20), (7, .int l7)] [] s55 := by
      intro n9_46
      induction n9_46 using Nat.strongRecOn with
      | _ n9_46 ih56 =>
        intro l5 l7 s55 i9 m9_46
        obtain ⟨Fs55, khi57_0, khi57_1, khi57_2, jhi57_0, jhi57_1, -⟩ := i9
        have ul5 := Int32.toInt_lt l5
        have wl5 := Int32.le_toInt l5
        have ul7 := Int32.toInt_lt l7
        have wl7 := Int32.le_toInt l7
        refine wa_iload rfl ?_
        refine wa_sipush (v := 2000) (by decide) ?_
        refine wa_icmp_ge o_X3_scan_179 (by decide) (fun h58 => ?_) (fun h58 => ?_)
        · refine wa_aload_n (i := 0) rfl rfl ?_
          refine wa_getr ck_3 fl_3_15 ly_18 rf_18_1 ?_
          refine wa_aload_n (i := 0) rfl rfl ?_
          refine wa_geti ck_3 fl_3_48 ly_18 ?_
          refine wa_iconst (v := 0) (by decide) ?_
          refine wa_iast ly_20 (by ((try simp only [vp_in_iff, Int32.lt_iff_toInt_lt, Int32.le_iff_toInt_le, ← Int32.toInt_inj, Int32.reduceToInt, n_1, n_2, n_8, Int32.toNatClampNeg, Int64.lt_iff_toInt_lt, Int64.le_iff_toInt_le, ← Int64.toInt_inj, Int64.reduceToInt, Int32.toInt_toInt64, lg_cmp_ge, lg_cmp_le, lg_cmp_gt, lg_cmp_lt, lg_cmp_eq, Bool.false_eq_true, Bool.true_eq_false, reduceCtorEq, false_iff, true_iff, iff_true, iff_false, and_true, true_and, and_false, false_and, reduceIte, ite_true, ite_false, eq_self] at *)) <;> omega) (fun s59 hs59 => ?_)
          have Fs59 : Sm 18 24 σ s59 := by rw [hs59]; exact Sm.si Fs55 _ _ (by decide) (by decide)
          refine wa_aload_n (i := 0) rfl rfl ?_
          refine wa_getr ck_3 fl_3_19 ly_18 rf_18_2 ?_
          refine wa_aload_n (i := 0) rfl rfl ?_
          refine wa_geti ck_3 fl_3_48 ly_18 ?_
          refine wa_rw (nxq_gi_si hs59 (by decide)) ?_
          refine wa_iload_n (i := 3) rfl rfl ?_
          refine wa_iast ly_21 (by ((try simp only [vp_in_iff, Int32.lt_iff_toInt_lt, Int32.le_iff_toInt_le, ← Int32.toInt_inj, Int32.reduceToInt, n_1, n_2, n_8, Int32.toNatClampNeg, Int64.lt_iff_toInt_lt, Int64.le_iff_toInt_le, ← Int64.toInt_inj, Int64.reduceToInt, Int32.toInt_toInt64, lg_cmp_ge, lg_cmp_le, lg_cmp_gt, lg_cmp_lt, lg_cmp_eq, Bool.false_eq_true, Bool.true_eq_false, reduceCtorEq, false_iff, true_iff, iff_true, iff_false, and_true, true_and, and_false, false_and, reduceIte, ite_true, ite_false, eq_self] at *)) <;> omega) (fun s60 hs60 => ?_)
          have Fs60 : Sm 18 24 σ s60 := by rw [hs60]; exact Sm.si Fs59 _ _ (by decide) (by decide)
          refine wa_return (st := []) rfl rfl ?_
          exact ⟨Fs60, (by rw [(nxq_gi_si hs60 (by decide)).trans (nxq_gi_si hs59 (by decide))]; first | assumption | (((try simp only [vp_in_iff, Int32.lt_iff_toInt_lt, Int32.le_iff_toInt_le, ← Int32.toInt_inj, Int32.reduceToInt, n_1, n_2, n_8, Int32.toNatClampNeg, Int64.lt_iff_toInt_lt, Int64.le_iff_toInt_le, ← Int64.toInt_inj, Int64.reduceToInt, Int32.toInt_toInt64, lg_cmp_ge, lg_cmp_le, lg_cmp_gt, lg_cmp_lt, lg_cmp_eq, Bool.false_eq_true, Bool.true_eq_false, reduceCtorEq, false_iff, true_iff, iff_true, iff_false, and_true, true_and, and_false, false_and, reduceIte, ite_true, ite_false, eq_self] at *)) <;> omega)), trivial⟩
        · have mh58 := nle_mx h58
          refine wa_iload rfl ?_
          refine wa_aload_n (i := 0) rfl rfl ?_
          refine wa_geti ck_3 fl_3_52 ly_18 ?_
          refine wa_rw (khi57_1) ?_
          refine wa_icmp_ge o_X3_scan_179 (by decide) (fun h61 => ?_) (fun h61 => ?_)
          · refine wa_aload_n (i := 0) rfl rfl ?_
            refine wa_getr ck_3 fl_3_15 ly_18 rf_18_1 ?_
            refine wa_aload_n (i := 0) rfl rfl ?_
            refine wa_geti ck_3 fl_3_48 ly_18 ?_
            refine wa_iconst (v := 0) (by decide) ?_
            refine wa_iast ly_20 (by ((try simp only [vp_in_iff, Int32.lt_iff_toInt_lt, Int32.le_iff_toInt_le, ← Int32.toInt_inj, Int32.reduceToInt, n_1, n_2, n_8, Int32.toNatClampNeg, Int64.lt_iff_toInt_lt, Int64.le_iff_toInt_le, ← Int64.toInt_inj, Int64.reduceToInt, Int32.toInt_toInt64, lg_cmp_ge, lg_cmp_le, lg_cmp_gt, lg_cmp_lt, lg_cmp_eq, Bool.false_eq_true, Bool.true_eq_false, reduceCtorEq, false_iff, true_iff, iff_true, iff_false, and_true, true_and, and_false, false_and, reduceIte, ite_true, ite_false, eq_self] at *)) <;> omega) (fun s62 hs62 => ?_)
            have Fs62 : Sm 18 24 σ s62 := by rw [hs62]; exact Sm.si Fs55 _ _ (by decide) (by decide)
            refine wa_aload_n (i := 0) rfl rfl ?_
            refine wa_getr ck_3 fl_3_19 ly_18 rf_18_2 ?_
            refine wa_aload_n (i := 0) rfl rfl ?_
            refine wa_geti ck_3 fl_3_48 ly_18 ?_
            refine wa_rw (nxq_gi_si hs62 (by decide)) ?_
            refine wa_iload_n (i := 3) rfl rfl ?_
            refine wa_iast ly_21 (by ((try simp only [vp_in_iff, Int32.lt_iff_toInt_lt, Int32.le_iff_toInt_le, ← Int32.toInt_inj, Int32.reduceToInt, n_1, n_2, n_8, Int32.toNatClampNeg, Int64.lt_iff_toInt_lt, Int64.le_iff_toInt_le, ← Int64.toInt_inj, Int64.reduceToInt, Int32.toInt_toInt64, lg_cmp_ge, lg_cmp_le, lg_cmp_gt, lg_cmp_lt, lg_cmp_eq, Bool.false_eq_true, Bool.true_eq_false, reduceCtorEq, false_iff, true_iff, iff_true, iff_false, and_true, true_and, and_false, false_and, reduceIte, ite_true, ite_false, eq_self] at *)) <;> omega) (fun s63 hs63 => ?_)
            have Fs63 : Sm 18 24 σ s63 := by rw [hs63]; exact Sm.si Fs62 _ _ (by decide) (by decide)
            refine wa_return (st := []) rfl rfl ?_
            exact ⟨Fs63, (by rw [(nxq_gi_si hs63 (by decide)).trans (nxq_gi_si hs62 (by decide))]; first | assumption | (((try simp only [vp_in_iff, Int32.lt_iff_toInt_lt, Int32.le_iff_toInt_le, ← Int32.toInt_inj, Int32.reduceToInt, n_1, n_2, n_8, Int32.toNatClampNeg, Int64.lt_iff_toInt_lt, Int64.le_iff_toInt_le, ← Int64.toInt_inj, Int64.reduceToInt, Int32.toInt_toInt64, lg_cmp_ge, lg_cmp_le, lg_cmp_gt, lg_cmp_lt, lg_cmp_eq, Bool.false_eq_true, Bool.true_eq_false, reduceCtorEq, false_iff, true_iff, iff_true, iff_false, and_true, true_and, and_false, false_and, reduceIte, ite_true, ite_false, eq_self] at *)) <;> omega)), trivial⟩
          · have mh61 := nle_mx h61
            refine wa_aload_n (i := 0) rfl rfl ?_
            refine wa_getr ck_3 fl_3_19 ly_18 rf_18_2 ?_
            refine wa_iload rfl ?_
            refine wa_iload rfl ?_
            refine wa_aload_n (i := 0) rfl rfl ?_
            refine wa_geti ck_3 fl_3_55 ly_18 ?_
            refine wa_rw (khi57_2) ?_
            refine wa_isub ?_
            refine wa_top (fun v64 hv64 => ?_)
            have tv64 := i_subT hv64
            clear hv64
            refine wa_iast ly_21 (by ((try simp only [vp_in_iff, Int32.lt_iff_toInt_lt, Int32.le_iff_toInt_le, ← Int32.toInt_inj, Int32.reduceToInt, n_1, n_2, n_8, Int32.toNatClampNeg, Int64.lt_iff_toInt_lt, Int64.le_iff_toInt_le, ← Int64.toInt_inj, Int64.reduceToInt, Int32.toInt_toInt64, lg_cmp_ge, lg_cmp_le, lg_cmp_gt, lg_cmp_lt, lg_cmp_eq, Bool.false_eq_true, Bool.true_eq_false, reduceCtorEq, false_iff, true_iff, iff_true, iff_false, and_true, true_and, and_false, false_and, reduceIte, ite_true, ite_false, eq_self] at *)) <;> omega) (fun s65 hs65 => ?_)
            have Fs65 : Sm 18 24 σ s65 := by rw [hs65]; exact Sm.si Fs55 _ _ (by decide) (by decide)
            refine wa_aload_n (i := 0) rfl rfl ?_
            refine wa_iload rfl ?_
            refine wa_Vi (d9 := d - 1) [.int _] [] (sp_X3_byteAt G (d := d - 1) (by omega) s65 _ (by rw [(nx_gr_si hs65).trans (khi57_0)]; first | assumption | exact Or.inl rfl | exact Or.inr rfl | (((try simp only [vp_in_iff, Int32.lt_iff_toInt_lt, Int32.le_iff_toInt_le, ← Int32.toInt_inj, Int32.reduceToInt, n_1, n_2, n_8, Int32.toNatClampNeg, Int64.lt_iff_toInt_lt, Int64.le_iff_toInt_le, ← Int64.toInt_inj, Int64.reduceToInt, Int32.toInt_toInt64, lg_cmp_ge, lg_cmp_le, lg_cmp_gt, lg_cmp_lt, lg_cmp_eq, Bool.false_eq_true, Bool.true_eq_false, reduceCtorEq, false_iff, true_iff, iff_true, iff_false, and_true, true_and, and_false, false_and, reduceIte, ite_true, ite_false, eq_self] at *)) <;> omega))) (rfl) rfl rfl (zr (by omega)) mk_X3_byteAt ly_18 ml_3_63 (Nat.le_of_ble_eq_true rfl) (fun x67 s66 hs66 => ?_)
            obtain ⟨zs66, -⟩ := pI hs66
            subst zs66
            refine wa_istoreD (lv' := [(8, .int x67), (0, .ref 18), (3, .int a2), (5, .int l5), (6, .int 20), (7, .int l7)]) (by decide) rfl ?_
            refine wa_iload rfl ?_
            refine wa_Si (d9 := d - 1) [.int _] [] (sp_X3_isLetter G (d := d - 1) (by omega) s65 _) (rfl) rfl rfl (zr (by omega)) mk_X3_isLetter ml_3_66 (Nat.le_of_ble_eq_true rfl) (fun x69 s68 hs68 => ?_)
            obtain ⟨bx69, ex69, zs68, -⟩ := pB hs68
            subst ex69
            subst zs68
            refine wa_if_eq o_X3_scan_108 (by decide) (fun h70 => ?_) (fun h70 => ?_)
            · replace h70 := bI_f (b := bx69) (rfl) h70
              refine wa_iload rfl ?_
              refine wa_Si (d9 := d - 1) [.int _] [] (sp_X3_isDigit G (d := d - 1) (by omega) s65 _) (rfl) rfl rfl (zr (by omega)) mk_X3_isDigit ml_3_74 (Nat.le_of_ble_eq_true rfl) (fun x72 s71 hs71 => ?_)
              obtain ⟨bx72, ex72, zs71, -⟩ := pB hs71
              subst ex72
              subst zs71
              refine wa_if_eq o_X3_scan_129 (by decide) (fun h73 => ?_) (fun h73 => ?_)
              · replace h73 := bI_f (b := bx72) (rfl) h73
                refine wa_aload_n (i := 0) rfl rfl ?_
                refine wa_iload rfl ?_
                refine wa_iload rfl ?_
                refine wa_Vi (d9 := d - 1) [.int _, .int _] [] (sp_X3_sign G (d := d - 1) (by omega) s65 _ _ (by rw [(nx_gr_si hs65).trans (khi57_0)]; first | assumption | exact Or.inl rfl | exact Or.inr rfl | (((try simp only [vp_in_iff, Int32.lt_iff_toInt_lt, Int32.le_iff_toInt_le, ← Int32.toInt_inj, Int32.reduceToInt, n_1, n_2, n_8, Int32.toNatClampNeg, Int64.lt_iff_toInt_lt, Int64.le_iff_toInt_le, ← Int64.toInt_inj, Int64.reduceToInt, Int32.toInt_toInt64, lg_cmp_ge, lg_cmp_le, lg_cmp_gt, lg_cmp_lt, lg_cmp_eq, Bool.false_eq_true, Bool.true_eq_false, reduceCtorEq, false_iff, true_iff, iff_true, iff_false, and_true, true_and, and_false, false_and, reduceIte, ite_true, ite_false, eq_self] at *)) <;> omega))) (rfl) rfl rfl (zr (by omega)) mk_X3_sign ly_18 ml_3_81 (Nat.le_of_ble_eq_true rfl) (fun x75 s74 hs74 => ?_)
                obtain ⟨fs74, cx75_1, cx75_2, -⟩ := pI hs74
                have Fs74 := Sm.tr Fs65 (Sm.wd fs74 (lo' := 18) (hi' := 24) (by decide) (by decide))
                refine wa_istoreD (lv' := [(5, .int x75), (8, .int x67), (0, .ref 18), (3, .int a2), (6, .int 20), (7, .int l7)]) (by decide) rfl ?_
                refine wa_aload_n (i := 0) rfl rfl ?_
                refine wa_iload rfl ?_
                refine wa_iconst (v := 1) (by decide) ?_
                refine wa_iadd ?_
                refine wa_top (fun v76 hv76 => ?_)
                have tv76 := i_addT hv76
                clear hv76
                refine wa_puti ck_3 fl_3_48 ly_18 (fun s77 hs77 => ?_)
                have Fs77 : Sm 18 24 σ s77 := by rw [hs77]; exact Sm.si Fs74 _ _ (by decide) (by decide)
                refine wa_aload_n (i := 0) rfl rfl ?_
                refine wa_getr ck_3 fl_3_15 ly_18 rf_18_1 ?_
                refine wa_iload rfl ?_
                refine wa_iald ly_20 (by ((try simp only [vp_in_iff, Int32.lt_iff_toInt_lt, Int32.le_iff_toInt_le, ← Int32.toInt_inj, Int32.reduceToInt, n_1, n_2, n_8, Int32.toNatClampNeg, Int64.lt_iff_toInt_lt, Int64.le_iff_toInt_le, ← Int64.toInt_inj, Int64.reduceToInt, Int32.toInt_toInt64, lg_cmp_ge, lg_cmp_le, lg_cmp_gt, lg_cmp_lt, lg_cmp_eq, Bool.false_eq_true, Bool.true_eq_false, reduceCtorEq, false_iff, true_iff, iff_true, iff_false, and_true, true_and, and_false, false_and, reduceIte, ite_true, ite_false, eq_self] at *)) <;> omega) ?_
                refine wa_iconst (v := 3) (by decide) ?_
                refine wa_icmp_ne o_X3_scan_165 (by decide) (fun h78 => ?_) (fun h78 => ?_)
                · refine wa_aload_n (i := 0) rfl rfl ?_
                  refine wa_iload rfl ?_
                  refine wa_Vi (d9 := d - 1) [.int _] [] (sp_X3_behindBlanks G (d := d - 1) (by omega) s77 _ (by rw [(nx_gr_si hs77).trans ((cx75_1).trans ((nx_gr_si hs65).trans (khi57_0)))]; first | assumption | exact Or.inl rfl | exact Or.inr rfl | (((try simp only [vp_in_iff, Int32.lt_iff_toInt_lt, Int32.le_iff_toInt_le, ← Int32.toInt_inj, Int32.reduceToInt, n_1, n_2, n_8, Int32.toNatClampNeg, Int64.lt_iff_toInt_lt, Int64.le_iff_toInt_le, ← Int64.toInt_inj, Int64.reduceToInt, Int32.toInt_toInt64, lg_cmp_ge, lg_cmp_le, lg_cmp_gt, lg_cmp_lt, lg_cmp_eq, Bool.false_eq_true, Bool.true_eq_false, reduceCtorEq, false_iff, true_iff, iff_true, iff_false, and_true, true_and, and_false, false_and, reduceIte, ite_true, ite_false, eq_self] at *)) <;> omega))) (rfl) rfl rfl (zr (by omega)) mk_X3_behindBlanks ly_18 ml_3_59 (Nat.le_of_ble_eq_true rfl) (fun x80 s79 hs79 => ?_)
                  obtain ⟨zs79, -⟩ := pI hs79
                  subst zs79
                  refine wa_istoreD (lv' := [(5, .int x80), (8, .int x67), (0, .ref 18), (3, .int a2), (6, .int 20), (7, .int l7)]) (by decide) rfl ?_
                  refine wa_iinc (v := (1)) (lv' := fun y81 => [(7, .int y81), (5, .int x80), (8, .int x67), (0, .ref 18), (3, .int a2), (6, .int 20)]) (by decide) rfl (by decide) (fun _ => rfl) (fun y81 hy81 => ?_)
                  have ty81 := i_addT hy81.symm
                  clear hy81
                  refine wa_goto o_X3_scan_46 (by decide) ?_
                  refine wa_pick [3, 4, 1, 5, 0] rfl ?_
                  exact ih56 _ (by ((try simp only [vp_in_iff, Int32.lt_iff_toInt_lt, Int32.le_iff_toInt_le, ← Int32.toInt_inj, Int32.reduceToInt, n_1, n_2, n_8, Int32.toNatClampNeg, Int64.lt_iff_toInt_lt, Int64.le_iff_toInt_le, ← Int64.toInt_inj, Int64.reduceToInt, Int32.toInt_toInt64, lg_cmp_ge, lg_cmp_le, lg_cmp_gt, lg_cmp_lt, lg_cmp_eq, Bool.false_eq_true, Bool.true_eq_false, reduceCtorEq, false_iff, true_iff, iff_true, iff_false, and_true, true_and, and_false, false_and, reduceIte, ite_true, ite_false, eq_self] at *)) <;> omega) _ _ _ ⟨Fs77, ((nx_gr_si hs77).trans ((cx75_1).trans ((nx_gr_si hs65).trans (khi57_0)))), ((nxk_gi_si hs77 (by decide)).trans ((Sm.gi fs74 8 (Or.inl (by decide))).trans ((nxq_gi_si hs65 (by decide)).trans (khi57_1)))), ((nxk_gi_si hs77 (by decide)).trans ((Sm.gi fs74 7 (Or.inl (by decide))).trans ((nxq_gi_si hs65 (by decide)).trans (khi57_2)))), (by ((try simp only [vp_in_iff, Int32.lt_iff_toInt_lt, Int32.le_iff_toInt_le, ← Int32.toInt_inj, Int32.reduceToInt, n_1, n_2, n_8, Int32.toNatClampNeg, Int64.lt_iff_toInt_lt, Int64.le_iff_toInt_le, ← Int64.toInt_inj, Int64.reduceToInt, Int32.toInt_toInt64, lg_cmp_ge, lg_cmp_le, lg_cmp_gt, lg_cmp_lt, lg_cmp_eq, Bool.false_eq_true, Bool.true_eq_false, reduceCtorEq, false_iff, true_iff, iff_true, iff_false, and_true, true_and, and_false, false_and, reduceIte, ite_true, ite_false, eq_self] at *)) <;> omega), (by rw [nxe_gi_si hs77]; first | assumption | (((try simp only [vp_in_iff, Int32.lt_iff_toInt_lt, Int32.le_iff_toInt_le, ← Int32.toInt_inj, Int32.reduceToInt, n_1, n_2, n_8, Int32.toNatClampNeg, Int64.lt_iff_toInt_lt, Int64.le_iff_toInt_le, ← Int64.toInt_inj, Int64.reduceToInt, Int32.toInt_toInt64, lg_cmp_ge, lg_cmp_le, lg_cmp_gt, lg_cmp_lt, lg_cmp_eq, Bool.false_eq_true, Bool.true_eq_false, reduceCtorEq, false_iff, true_iff, iff_true, iff_false, and_true, true_and, and_false, false_and, reduceIte, ite_true, ite_false, eq_self] at *)) <;> omega)), trivial⟩ rfl
                · refine wa_aload_n (i := 0) rfl rfl ?_
                  refine wa_geti ck_3 fl_3_52 ly_18 ?_
                  refine wa_rw ((nxk_gi_si hs77 (by decide)).trans ((Sm.gi fs74 8 (Or.inl (by decide))).trans ((nxq_gi_si hs65 (by decide)).trans (khi57_1)))) ?_
                  refine wa_goto o_X3_scan_171 (by decide) ?_
                  refine wa_istoreD (lv' := [(5, .int v3), (8, .int x67), (0, .ref 18), (3, .int a2), (6, .int 20), (7, .int l7)]) (by decide) rfl ?_
                  refine wa_iinc (v := (1)) (lv' := fun y82 => [(7, .int y82), (5, .int v3), (8, .int x67), (0, .ref 18), (3, .int a2), (6, .int 20)]) (by decide) rfl (by decide) (fun _ => rfl) (fun y82 hy82 => ?_)
                  have ty82 := i_addT hy82.symm
                  clear hy82
                  refine wa_goto o_X3_scan_46 (by decide) ?_
                  refine wa_pick [3, 4, 1, 5, 0] rfl ?_
                  exact ih56 _ (by ((try simp only [vp_in_iff, Int32.lt_iff_toInt_lt, Int32.le_iff_toInt_le, ← Int32.toInt_inj, Int32.reduceToInt, n_1, n_2, n_8, Int32.toNatClampNeg, Int64.lt_iff_toInt_lt, Int64.le_iff_toInt_le, ← Int64.toInt_inj, Int64.reduceToInt, Int32.toInt_toInt64, lg_cmp_ge, lg_cmp_le, lg_cmp_gt, lg_cmp_lt, lg_cmp_eq, Bool.false_eq_true, Bool.true_eq_false, reduceCtorEq, false_iff, true_iff, iff_true, iff_false, and_true, true_and, and_false, false_and, reduceIte, ite_true, ite_false, eq_self] at *)) <;> omega) _ _ _ ⟨Fs77, ((nx_gr_si hs77).trans ((cx75_1).trans ((nx_gr_si hs65).trans (khi57_0)))), ((nxk_gi_si hs77 (by decide)).trans ((Sm.gi fs74 8 (Or.inl (by decide))).trans ((nxq_gi_si hs65 (by decide)).trans (khi57_1)))), ((nxk_gi_si hs77 (by decide)).trans ((Sm.gi fs74 7 (Or.inl (by decide))).trans ((nxq_gi_si hs65 (by decide)).trans (khi57_2)))), (by ((try simp only [vp_in_iff, Int32.lt_iff_toInt_lt, Int32.le_iff_toInt_le, ← Int32.toInt_inj, Int32.reduceToInt, n_1, n_2, n_8, Int32.toNatClampNeg, Int64.lt_iff_toInt_lt, Int64.le_iff_toInt_le, ← Int64.toInt_inj, Int64.reduceToInt, Int32.toInt_toInt64, lg_cmp_ge, lg_cmp_le, lg_cmp_gt, lg_cmp_lt, lg_cmp_eq, Bool.false_eq_true, Bool.true_eq_false, reduceCtorEq, false_iff, true_iff, iff_true, iff_false, and_true, true_and, and_false, false_and, reduceIte, ite_true, ite_false, eq_self] at *)) <;> omega), (by rw [nxe_gi_si hs77]; first | assumption | (((try simp only [vp_in_iff, Int32.lt_iff_toInt_lt, Int32.le_iff_toInt_le, ← Int32.toInt_inj, Int32.reduceToInt, n_1, n_2, n_8, Int32.toNatClampNeg, Int64.lt_iff_toInt_lt, Int64.le_iff_toInt_le, ← Int64.toInt_inj, Int64.reduceToInt, Int32.toInt_toInt64, lg_cmp_ge, lg_cmp_le, lg_cmp_gt, lg_cmp_lt, lg_cmp_eq, Bool.false_eq_true, Bool.true_eq_false, reduceCtorEq, false_iff, true_iff, iff_true, iff_false, and_true, true_and, and_false, false_and, reduceIte, ite_true, ite_false, eq_self] at *)) <;> omega)), trivial⟩ rfl
              · replace h73 := bI_t (b := bx72) (rfl) h73
                refine wa_aload_n (i := 0) rfl rfl ?_
                refine wa_iload rfl ?_
                refine wa_iload rfl ?_
                refine wa_Vi (d9 := d - 1) [.int _, .int _] [] (sp_X3_digits G (d := d - 1) (by omega) s65 _ _ (by rw [(nx_gr_si hs65).trans (khi57_0)]; first | assumption | exact Or.inl rfl | exact Or.inr rfl | (((try simp only [vp_in_iff, Int32.lt_iff_toInt_lt, Int32.le_iff_toInt_le, ← Int32.toInt_inj, Int32.reduceToInt, n_1, n_2, n_8, Int32.toNatClampNeg, Int64.lt_iff_toInt_lt, Int64.le_iff_toInt_le, ← Int64.toInt_inj, Int64.reduceToInt, Int32.toInt_toInt64, lg_cmp_ge, lg_cmp_le, lg_cmp_gt, lg_cmp_lt, lg_cmp_eq, Bool.false_eq_true, Bool.true_eq_false, reduceCtorEq, false_iff, true_iff, iff_true, iff_false, and_true, true_and, and_false, false_and, reduceIte, ite_true, ite_false, eq_self] at *)) <;> omega))) (rfl) rfl rfl (zr (by omega)) mk_X3_digits ly_18 ml_3_77 (Nat.le_of_ble_eq_true rfl) (fun x84 s83 hs83 => ?_)
                obtain ⟨fs83, cx84_1, cx84_2, -⟩ := pI hs83
                have Fs83 := Sm.tr Fs65 (Sm.wd fs83 (lo' := 18) (hi' := 24) (by decide) (by decide))
                refine wa_istoreD (lv' := [(5, .int x84), (8, .int x67), (0, .ref 18), (3, .int a2), (6, .int 20), (7, .int l7)]) (by decide) rfl ?_
                refine wa_goto o_X3_scan_139 (by decide) ?_
                refine wa_aload_n (i := 0) rfl rfl ?_
                refine wa_iload rfl ?_
                refine wa_iconst (v := 1) (by decide) ?_
                refine wa_iadd ?_
                refine wa_top (fun v85 hv85 => ?_)
                have tv85 := i_addT hv85
                clear hv85
                refine wa_puti ck_3 fl_3_48 ly_18 (fun s86 hs86 => ?_)
                have Fs86 : Sm 18 24 σ s86 := by rw [hs86]; exact Sm.si Fs83 _ _ (by decide) (by decide)
                refine wa_aload_n (i := 0) rfl rfl ?_
                refine wa_getr ck_3 fl_3_15 ly_18 rf_18_1 ?_
                refine wa_iload rfl ?_
                refine wa_iald ly_20 (by ((try simp only [vp_in_iff, Int32.lt_iff_toInt_lt, Int32.le_iff_toInt_le, ← Int32.toInt_inj, Int32.reduceToInt, n_1, n_2, n_8, Int32.toNatClampNeg, Int64.lt_iff_toInt_lt, Int64.le_iff_toInt_le, ← Int64.toInt_inj, Int64.reduceToInt, Int32.toInt_toInt64, lg_cmp_ge, lg_cmp_le, lg_cmp_gt, lg_cmp_lt, lg_cmp_eq, Bool.false_eq_true, Bool.true_eq_false, reduceCtorEq, false_iff, true_iff, iff_true, iff_false, and_true, true_and, and_false, false_and, reduceIte, ite_true, ite_false, eq_self] at *)) <;> omega) ?_
                refine wa_iconst (v := 3) (by decide) ?_
                refine wa_icmp_ne o_X3_scan_165 (by decide) (fun h87 => ?_) (fun h87 => ?_)
                · refine wa_aload_n (i := 0) rfl rfl ?_
                  refine wa_iload rfl ?_
                  refine wa_Vi (d9 := d - 1) [.int _] [] (sp_X3_behindBlanks G (d := d - 1) (by omega) s86 _ (by rw [(nx_gr_si hs86).trans ((cx84_1).trans ((nx_gr_si hs65).trans (khi57_0)))]; first | assumption | exact Or.inl rfl | exact Or.inr rfl | (((try simp only [vp_in_iff, Int32.lt_iff_toInt_lt, Int32.le_iff_toInt_le, ← Int32.toInt_inj, Int32.reduceToInt, n_1, n_2, n_8, Int32.toNatClampNeg, Int64.lt_iff_toInt_lt, Int64.le_iff_toInt_le, ← Int64.toInt_inj, Int64.reduceToInt, Int32.toInt_toInt64, lg_cmp_ge, lg_cmp_le, lg_cmp_gt, lg_cmp_lt, lg_cmp_eq, Bool.false_eq_true, Bool.true_eq_false, reduceCtorEq, false_iff, true_iff, iff_true, iff_false, and_true, true_and, and_false, false_and, reduceIte, ite_true, ite_false, eq_self] at *)) <;> omega))) (rfl) rfl rfl (zr (by omega)) mk_X3_behindBlanks ly_18 ml_3_59 (Nat.le_of_ble_eq_true rfl) (fun x89 s88 hs88 => ?_)
                  obtain ⟨zs88, -⟩ := pI hs88
                  subst zs88
                  refine wa_istoreD (lv' := [(5, .int x89), (8, .int x67), (0, .ref 18), (3, .int a2), (6, .int 20), (7, .int l7)]) (by decide) rfl ?_
                  refine wa_iinc (v := (1)) (lv' := fun y90 => [(7, .int y90), (5, .int x89), (8, .int x67), (0, .ref 18), (3, .int a2), (6, .int 20)]) (by decide) rfl (by decide) (fun _ => rfl) (fun y90 hy90 => ?_)
                  have ty90 := i_addT hy90.symm
                  clear hy90
                  refine wa_goto o_X3_scan_46 (by decide) ?_
                  refine wa_pick [3, 4, 1, 5, 0] rfl ?_
                  exact ih56 _ (by ((try simp only [vp_in_iff, Int32.lt_iff_toInt_lt, Int32.le_iff_toInt_le, ← Int32.toInt_inj, Int32.reduceToInt, n_1, n_2, n_8, Int32.toNatClampNeg, Int64.lt_iff_toInt_lt, Int64.le_iff_toInt_le, ← Int64.toInt_inj, Int64.reduceToInt, Int32.toInt_toInt64, lg_cmp_ge, lg_cmp_le, lg_cmp_gt, lg_cmp_lt, lg_cmp_eq, Bool.false_eq_true, Bool.true_eq_false, reduceCtorEq, false_iff, true_iff, iff_true, iff_false, and_true, true_and, and_false, false_and, reduceIte, ite_true, ite_false, eq_self] at *)) <;> omega) _ _ _ ⟨Fs86, ((nx_gr_si hs86).trans ((cx84_1).trans ((nx_gr_si hs65).trans (khi57_0)))), ((nxk_gi_si hs86 (by decide)).trans ((Sm.gi fs83 8 (Or.inl (by decide))).trans ((nxq_gi_si hs65 (by decide)).trans (khi57_1)))), ((nxk_gi_si hs86 (by decide)).trans ((Sm.gi fs83 7 (Or.inl (by decide))).trans ((nxq_gi_si hs65 (by decide)).trans (khi57_2)))), (by ((try simp only [vp_in_iff, Int32.lt_iff_toInt_lt, Int32.le_iff_toInt_le, ← Int32.toInt_inj, Int32.reduceToInt, n_1, n_2, n_8, Int32.toNatClampNeg, Int64.lt_iff_toInt_lt, Int64.le_iff_toInt_le, ← Int64.toInt_inj, Int64.reduceToInt, Int32.toInt_toInt64, lg_cmp_ge, lg_cmp_le, lg_cmp_gt, lg_cmp_lt, lg_cmp_eq, Bool.false_eq_true, Bool.true_eq_false, reduceCtorEq, false_iff, true_iff, iff_true, iff_false, and_true, true_and, and_false, false_and, reduceIte, ite_true, ite_false, eq_self] at *)) <;> omega), (by rw [nxe_gi_si hs86]; first | assumption | (((try simp only [vp_in_iff, Int32.lt_iff_toInt_lt, Int32.le_iff_toInt_le, ← Int32.toInt_inj, Int32.reduceToInt, n_1, n_2, n_8, Int32.toNatClampNeg, Int64.lt_iff_toInt_lt, Int64.le_iff_toInt_le, ← Int64.toInt_inj, Int64.reduceToInt, Int32.toInt_toInt64, lg_cmp_ge, lg_cmp_le, lg_cmp_gt, lg_cmp_lt, lg_cmp_eq, Bool.false_eq_true, Bool.true_eq_false, reduceCtorEq, false_iff, true_iff, iff_true, iff_false, and_true, true_and, and_false, false_and, reduceIte, ite_true, ite_false, eq_self] at *)) <;> omega)), trivial⟩ rfl
                · refine wa_aload_n (i := 0) rfl rfl ?_
                  refine wa_geti ck_3 fl_3_52 ly_18 ?_
                  refine wa_rw ((nxk_gi_si hs86 (by decide)).trans ((Sm.gi fs83 8 (Or.inl (by decide))).trans ((nxq_gi_si hs65 (by decide)).trans (khi57_1)))) ?_
                  refine wa_goto o_X3_scan_171 (by decide) ?_
                  refine wa_istoreD (lv' := [(5, .int v3), (8, .int x67), (0, .ref 18), (3, .int a2), (6, .int 20), (7, .int l7)]) (by decide) rfl ?_
                  refine wa_iinc (v := (1)) (lv' := fun y91 => [(7, .int y91), (5, .int v3), (8, .int x67), (0, .ref 18), (3, .int a2), (6, .int 20)]) (by decide) rfl (by decide) (fun _ => rfl) (fun y91 hy91 => ?_)
                  have ty91 := i_addT hy91.symm
                  clear hy91
                  refine wa_goto o_X3_scan_46 (by decide) ?_
                  refine wa_pick [3, 4, 1, 5, 0] rfl ?_
                  exact ih56 _ (by ((try simp only [vp_in_iff, Int32.lt_iff_toInt_lt, Int32.le_iff_toInt_le, ← Int32.toInt_inj, Int32.reduceToInt, n_1, n_2, n_8, Int32.toNatClampNeg, Int64.lt_iff_toInt_lt, Int64.le_iff_toInt_le, ← Int64.toInt_inj, Int64.reduceToInt, Int32.toInt_toInt64, lg_cmp_ge, lg_cmp_le, lg_cmp_gt, lg_cmp_lt, lg_cmp_eq, Bool.false_eq_true, Bool.true_eq_false, reduceCtorEq, false_iff, true_iff, iff_true, iff_false, and_true, true_and, and_false, false_and, reduceIte, ite_true, ite_false, eq_self] at *)) <;> omega) _ _ _ ⟨Fs86, ((nx_gr_si hs86).trans ((cx84_1).trans ((nx_gr_si hs65).trans (khi57_0)))), ((nxk_gi_si hs86 (by decide)).trans ((Sm.gi fs83 8 (Or.inl (by decide))).trans ((nxq_gi_si hs65 (by decide)).trans (khi57_1)))), ((nxk_gi_si hs86 (by decide)).trans ((Sm.gi fs83 7 (Or.inl (by decide))).trans ((nxq_gi_si hs65 (by decide)).trans (khi57_2)))), (by ((try simp only [vp_in_iff, Int32.lt_iff_toInt_lt, Int32.le_iff_toInt_le, ← Int32.toInt_inj, Int32.reduceToInt, n_1, n_2, n_8, Int32.toNatClampNeg, Int64.lt_iff_toInt_lt, Int64.le_iff_toInt_le, ← Int64.toInt_inj, Int64.reduceToInt, Int32.toInt_toInt64, lg_cmp_ge, lg_cmp_le, lg_cmp_gt, lg_cmp_lt, lg_cmp_eq, Bool.false_eq_true, Bool.true_eq_false, reduceCtorEq, false_iff, true_iff, iff_true, iff_false, and_true, true_and, and_false, false_and, reduceIte, ite_true, ite_false, eq_self] at *)) <;> omega), (by rw [nxe_gi_si hs86]; first | assumption | (((try simp only [vp_in_iff, Int32.lt_iff_toInt_lt, Int32.le_iff_toInt_le, ← Int32.toInt_inj, Int32.reduceToInt, n_1, n_2, n_8, Int32.toNatClampNeg, Int64.lt_iff_toInt_lt, Int64.le_iff_toInt_le, ← Int64.toInt_inj, Int64.reduceToInt, Int32.toInt_toInt64, lg_cmp_ge, lg_cmp_le, lg_cmp_gt, lg_cmp_lt, lg_cmp_eq, Bool.false_eq_true, Bool.true_eq_false, reduceCtorEq, false_iff, true_iff, iff_true, iff_false, and_true, true_and, and_false, false_and, reduceIte, ite_true, ite_false, eq_self] at *)) <;> omega)), trivial⟩ rfl
            · replace h70 := bI_t (b := bx69) (rfl) h70
              refine wa_aload_n (i := 0) rfl rfl ?_
              refine wa_iload rfl ?_
              refine wa_iload rfl ?_
              refine wa_iload rfl ?_
              refine wa_Vi (d9 := d - 1) [.int _, .int _, .int _] [] (sp_X3_word G (d := d - 1) (by omega) s65 _ _ _ (by rw [(nx_gr_si hs65).trans (khi57_0)]; first | assumption | exact Or.inl rfl | exact Or.inr rfl | (((try simp only [vp_in_iff, Int32.lt_iff_toInt_lt, Int32.le_iff_toInt_le, ← Int32.toInt_inj, Int32.reduceToInt, n_1, n_2, n_8, Int32.toNatClampNeg, Int64.lt_iff_toInt_lt, Int64.le_iff_toInt_le, ← Int64.toInt_inj, Int64.reduceToInt, Int32.toInt_toInt64, lg_cmp_ge, lg_cmp_le, lg_cmp_gt, lg_cmp_lt, lg_cmp_eq, Bool.false_eq_true, Bool.true_eq_false, reduceCtorEq, false_iff, true_iff, iff_true, iff_false, and_true, true_and, and_false, false_and, reduceIte, ite_true, ite_false, eq_self] at *)) <;> omega))) (rfl) rfl rfl (zr (by omega)) mk_X3_word ly_18 ml_3_70 (Nat.le_of_ble_eq_true rfl) (fun x93 s92 hs92 => ?_)
              obtain ⟨fs92, cx93_1, cx93_2, -⟩ := pI hs92
              have Fs92 := Sm.tr Fs65 (Sm.wd fs92 (lo' := 18) (hi' := 24) (by decide) (by decide))
              refine wa_istoreD (lv' := [(5, .int x93), (8, .int x67), (0, .ref 18), (3, .int a2), (6, .int 20), (7, .int l7)]) (by decide) rfl ?_
              refine wa_goto o_X3_scan_139 (by decide) ?_
              refine wa_aload_n (i := 0) rfl rfl ?_
              refine wa_iload rfl ?_
              refine wa_iconst (v := 1) (by decide) ?_
              refine wa_iadd ?_
              refine wa_top (fun v94 hv94 => ?_)
              have tv94 := i_addT hv94
              clear hv94
              refine wa_puti ck_3 fl_3_48 ly_18 (fun s95 hs95 => ?_)
              have Fs95 : Sm 18 24 σ s95 := by rw [hs95]; exact Sm.si Fs92 _ _ (by decide) (by decide)
              refine wa_aload_n (i := 0) rfl rfl ?_
              refine wa_getr ck_3 fl_3_15 ly_18 rf_18_1 ?_
              refine wa_iload rfl ?_
              refine wa_iald ly_20 (by ((try simp only [vp_in_iff, Int32.lt_iff_toInt_lt, Int32.le_iff_toInt_le, ← Int32.toInt_inj, Int32.reduceToInt, n_1, n_2, n_8, Int32.toNatClampNeg, Int64.lt_iff_toInt_lt, Int64.le_iff_toInt_le, ← Int64.toInt_inj, Int64.reduceToInt, Int32.toInt_toInt64, lg_cmp_ge, lg_cmp_le, lg_cmp_gt, lg_cmp_lt, lg_cmp_eq, Bool.false_eq_true, Bool.true_eq_false, reduceCtorEq, false_iff, true_iff, iff_true, iff_false, and_true, true_and, and_false, false_and, reduceIte, ite_true, ite_false, eq_self] at *)) <;> omega) ?_
              refine wa_iconst (v := 3) (by decide) ?_
              refine wa_icmp_ne o_X3_scan_165 (by decide) (fun h96 => ?_) (fun h96 => ?_)
              · refine wa_aload_n (i := 0) rfl rfl ?_
                refine wa_iload rfl ?_
                refine wa_Vi (d9 := d - 1) [.int _] [] (sp_X3_behindBlanks G (d := d - 1) (by omega) s95 _ (by rw [(nx_gr_si hs95).trans ((cx93_1).trans ((nx_gr_si hs65).trans (khi57_0)))]; first | assumption | exact Or.inl rfl | exact Or.inr rfl | (((try simp only [vp_in_iff, Int32.lt_iff_toInt_lt, Int32.le_iff_toInt_le, ← Int32.toInt_inj, Int32.reduceToInt, n_1, n_2, n_8, Int32.toNatClampNeg, Int64.lt_iff_toInt_lt, Int64.le_iff_toInt_le, ← Int64.toInt_inj, Int64.reduceToInt, Int32.toInt_toInt64, lg_cmp_ge, lg_cmp_le, lg_cmp_gt, lg_cmp_lt, lg_cmp_eq, Bool.false_eq_true, Bool.true_eq_false, reduceCtorEq, false_iff, true_iff, iff_true, iff_false, and_true, true_and, and_false, false_and, reduceIte, ite_true, ite_false, eq_self] at *)) <;> omega))) (rfl) rfl rfl (zr (by omega)) mk_X3_behindBlanks ly_18 ml_3_59 (Nat.le_of_ble_eq_true rfl) (fun x98 s97 hs97 => ?_)
                obtain ⟨zs97, -⟩ := pI hs97
                subst zs97
                refine wa_istoreD (lv' := [(5, .int x98), (8, .int x67), (0, .ref 18), (3, .int a2), (6, .int 20), (7, .int l7)]) (by decide) rfl ?_
                refine wa_iinc (v := (1)) (lv' := fun y99 => [(7, .int y99), (5, .int x98), (8, .int x67), (0, .ref 18), (3, .int a2), (6, .int 20)]) (by decide) rfl (by decide) (fun _ => rfl) (fun y99 hy99 => ?_)
                have ty99 := i_addT hy99.symm
                clear hy99
                refine wa_goto o_X3_scan_46 (by decide) ?_
                refine wa_pick [3, 4, 1, 5, 0] rfl ?_
                exact ih56 _ (by ((try simp only [vp_in_iff, Int32.lt_iff_toInt_lt, Int32.le_iff_toInt_le, ← Int32.toInt_inj, Int32.reduceToInt, n_1, n_2, n_8, Int32.toNatClampNeg, Int64.lt_iff_toInt_lt, Int64.le_iff_toInt_le, ← Int64.toInt_inj, Int64.reduceToInt, Int32.toInt_toInt64, lg_cmp_ge, lg_cmp_le, lg_cmp_gt, lg_cmp_lt, lg_cmp_eq, Bool.false_eq_true, Bool.true_eq_false, reduceCtorEq, false_iff, true_iff, iff_true, iff_false, and_true, true_and, and_false, false_and, reduceIte, ite_true, ite_false, eq_self] at *)) <;> omega) _ _ _ ⟨Fs95, ((nx_gr_si hs95).trans ((cx93_1).trans ((nx_gr_si hs65).trans (khi57_0)))), ((nxk_gi_si hs95 (by decide)).trans ((Sm.gi fs92 8 (Or.inl (by decide))).trans ((nxq_gi_si hs65 (by decide)).trans (khi57_1)))), ((nxk_gi_si hs95 (by decide)).trans ((Sm.gi fs92 7 (Or.inl (by decide))).trans ((nxq_gi_si hs65 (by decide)).trans (khi57_2)))), (by ((try simp only [vp_in_iff, Int32.lt_iff_toInt_lt, Int32.le_iff_toInt_le, ← Int32.toInt_inj, Int32.reduceToInt, n_1, n_2, n_8, Int32.toNatClampNeg, Int64.lt_iff_toInt_lt, Int64.le_iff_toInt_le, ← Int64.toInt_inj, Int64.reduceToInt, Int32.toInt_toInt64, lg_cmp_ge, lg_cmp_le, lg_cmp_gt, lg_cmp_lt, lg_cmp_eq, Bool.false_eq_true, Bool.true_eq_false, reduceCtorEq, false_iff, true_iff, iff_true, iff_false, and_true, true_and, and_false, false_and, reduceIte, ite_true, ite_false, eq_self] at *)) <;> omega), (by rw [nxe_gi_si hs95]; first | assumption | (((try simp only [vp_in_iff, Int32.lt_iff_toInt_lt, Int32.le_iff_toInt_le, ← Int32.toInt_inj, Int32.reduceToInt, n_1, n_2, n_8, Int32.toNatClampNeg, Int64.lt_iff_toInt_lt, Int64.le_iff_toInt_le, ← Int64.toInt_inj, Int64.reduceToInt, Int32.toInt_toInt64, lg_cmp_ge, lg_cmp_le, lg_cmp_gt, lg_cmp_lt, lg_cmp_eq, Bool.false_eq_true, Bool.true_eq_false, reduceCtorEq, false_iff, true_iff, iff_true, iff_false, and_true, true_and, and_false, false_and, reduceIte, ite_true, ite_false, eq_self] at *)) <;> omega)), trivial⟩ rfl
              · refine wa_aload_n (i := 0) rfl rfl ?_
                refine wa_geti ck_3 fl_3_52 ly_18 ?_
                refine wa_rw ((nxk_gi_si hs95 (by decide)).trans ((Sm.gi fs92 8 (Or.inl (by decide))).trans ((nxq_gi_si hs65 (by decide)).trans (khi57_1)))) ?_
                refine wa_goto o_X3_scan_171 (by decide) ?_
                refine wa_istoreD (lv' := [(5, .int v3), (8, .int x67), (0, .ref 18), (3, .int a2), (6, .int 20), (7, .int l7)]) (by decide) rfl ?_
                refine wa_iinc (v := (1)) (lv' := fun y100 => [(7, .int y100), (5, .int v3), (8, .int x67), (0, .ref 18), (3, .int a2), (6, .int 20)]) (by decide) rfl (by decide) (fun _ => rfl) (fun y100 hy100 => ?_)
                have ty100 := i_addT hy100.symm
                clear hy100
                refine wa_goto o_X3_scan_46 (by decide) ?_
                refine wa_pick [3, 4, 1, 5, 0] rfl ?_
                exact ih56 _ (by ((try simp only [vp_in_iff, Int32.lt_iff_toInt_lt, Int32.le_iff_toInt_le, ← Int32.toInt_inj, Int32.reduceToInt, n_1, n_2, n_8, Int32.toNatClampNeg, Int64.lt_iff_toInt_lt, Int64.le_iff_toInt_le, ← Int64.toInt_inj, Int64.reduceToInt, Int32.toInt_toInt64, lg_cmp_ge, lg_cmp_le, lg_cmp_gt, lg_cmp_lt, lg_cmp_eq, Bool.false_eq_true, Bool.true_eq_false, reduceCtorEq, false_iff, true_iff, iff_true, iff_false, and_true, true_and, and_false, false_and, reduceIte, ite_true, ite_false, eq_self] at *)) <;> omega) _ _ _ ⟨Fs95, ((nx_gr_si hs95).trans ((cx93_1).trans ((nx_gr_si hs65).trans (khi57_0)))), ((nxk_gi_si hs95 (by decide)).trans ((Sm.gi fs92 8 (Or.inl (by decide))).trans ((nxq_gi_si hs65 (by decide)).trans (khi57_1)))), ((nxk_gi_si hs95 (by decide)).trans ((Sm.gi fs92 7 (Or.inl (by decide))).trans ((nxq_gi_si hs65 (by decide)).trans (khi57_2)))), (by ((try simp only [vp_in_iff, Int32.lt_iff_toInt_lt, Int32.le_iff_toInt_le, ← Int32.toInt_inj, Int32.reduceToInt, n_1, n_2, n_8, Int32.toNatClampNeg, Int64.lt_iff_toInt_lt, Int64.le_iff_toInt_le, ← Int64.toInt_inj, Int64.reduceToInt, Int32.toInt_toInt64, lg_cmp_ge, lg_cmp_le, lg_cmp_gt, lg_cmp_lt, lg_cmp_eq, Bool.false_eq_true, Bool.true_eq_false, reduceCtorEq, false_iff, true_iff, iff_true, iff_false, and_true, true_and, and_false, false_and, reduceIte, ite_true, ite_false, eq_self] at *)) <;> omega), (by rw [nxe_gi_si hs95]; first | assumption | (((try simp only [vp_in_iff, Int32.lt_iff_toInt_lt, Int32.le_iff_toInt_le, ← Int32.toInt_inj, Int32.reduceToInt, n_1, n_2, n_8, Int32.toNatClampNeg, Int64.lt_iff_toInt_lt, Int64.le_iff_toInt_le, ← Int64.toInt_inj, Int64.reduceToInt, Int32.toInt_toInt64, lg_cmp_ge, lg_cmp_le, lg_cmp_gt, lg_cmp_lt, lg_cmp_eq, Bool.false_eq_true, Bool.true_eq_false, reduceCtorEq, false_iff, true_iff, iff_true, iff_false, and_true, true_and, and_false, false_and, reduceIte, ite_true, ite_false, eq_self] at *)) <;> omega)), trivial⟩ rfl
    exact hi57 _ _ _ _ ⟨Fs5, ((nx_gr_si hs5).trans ((nx_gr_si hs4).trans ((nx_gr_si hs2).trans (nxe_gr_sr hs1)))), ((nxk_gi_si hs5 (by decide)).trans (nxe_gi_si hs4)), ((nxk_gi_si hs5 (by decide)).trans ((nxk_gi_si hs4 (by decide)).trans (nxe_gi_si hs2))), (by ((try simp only [vp_in_iff, Int32.lt_iff_toInt_lt, Int32.le_iff_toInt_le, ← Int32.toInt_inj, Int32.reduceToInt, n_1, n_2, n_8, Int32.toNatClampNeg, Int64.lt_iff_toInt_lt, Int64.le_iff_toInt_le, ← Int64.toInt_inj, Int64.reduceToInt, Int32.toInt_toInt64, lg_cmp_ge, lg_cmp_le, lg_cmp_gt, lg_cmp_lt, lg_cmp_eq, Bool.false_eq_true, Bool.true_eq_false, reduceCtorEq, false_iff, true_iff, iff_true, iff_false, and_true, true_and, and_false, false_and, reduceIte, ite_true, ite_false, eq_self] at *)) <;> omega), (by rw [nxe_gi_si hs5]; first | assumption | (((try simp only [vp_in_iff, Int32.lt_iff_toInt_lt, Int32.le_iff_toInt_le, ← Int32.toInt_inj, Int32.reduceToInt, n_1, n_2, n_8, Int32.toNatClampNeg, Int64.lt_iff_toInt_lt, Int64.le_iff_toInt_le, ← Int64.toInt_inj, Int64.reduceToInt, Int32.toInt_toInt64, lg_cmp_ge, lg_cmp_le, lg_cmp_gt, lg_cmp_lt, lg_cmp_eq, Bool.false_eq_true, Bool.true_eq_false, reduceCtorEq, false_iff, true_iff, iff_true, iff_false, and_true, true_and, and_false, false_and, reduceIte, ite_true, ite_false, eq_self] at *)) <;> omega)), trivial⟩ rfl
set_option maxHeartbeats 4000000 in
theorem sp_X8_begin_at_6 (G : kG9) {d : Nat} (hd : 6 ≤ d) (σ : St) (a1 : Int32) (a2 : Int32) : Ct G M_X8_begin d [.ref 30, .ref 6, .int a1, .int a2] σ (fun r σ' => Fm [18, 19, 20, 21, 22, 23, 30] [] σ σ' ∧ ((gi σ' 18 5).toInt ≤ 2000) ∧ True) := by
  refine wa_start (by decide) rfl (Nat.le_of_ble_eq_true rfl) (lv := [(0, .ref 30), (1, .ref 6), (2, .int a1), (3, .int a2)]) rfl o_X8_begin_0 rfl ?_
  have ua1 := Int32.toInt_lt a1
  have wa1 := Int32.le_toInt a1
  have ua2 := Int32.toInt_lt a2
  have wa2 := Int32.le_toInt a2
  refine wa_aload_n (i := 0) rfl rfl ?_
  refine wa_getr ck_8 fl_8_9 ly_30 rf_30_0 ?_
  refine wa_aload_n (i := 1) rfl rfl ?_
  refine wa_iload_n (i := 2) rfl rfl ?_
  refine wa_iload_n (i := 3) rfl rfl ?_
  refine wa_iconst (v := 0) (by decide) ?_
  refine wa_Vv (d9 := d - 1) [.ref 6, .int _, .int _, .int (bI false)] [] (sp_X3_scan_at_6 G (d := d - 1) (by omega) σ _ _ false) (rfl) rfl rfl (zr (by omega)) mk_X3_scan ly_18 ml_8_119 (Nat.le_of_ble_eq_true rfl) (fun s1 hs1 => ?_)
  obtain ⟨fs1, cx2_1, -⟩ := hs1
  have Fs1 : Fm [18, 19, 20, 21, 22, 23, 30] [] σ s1 := Fm.tr (Fm.rf [18, 19, 20, 21, 22, 23, 30] [] σ) (Fm.ofSm fs1 rfl)
  refine wa_aload_n (i := 0) rfl rfl ?_
  refine wa_iconst (v := 0) (by decide) ?_
  refine wa_puti ck_8 fl_8_62 ly_30 (fun s3 hs3 => ?_)
  have Fs3 : Fm [18, 19, 20, 21, 22, 23, 30] [] σ s3 := by rw [hs3]; exact Fm.si Fs1 rfl
  refine wa_aload_n (i := 0) rfl rfl ?_
  refine wa_iconst (v := 0) (by decide) ?_
  refine wa_puti ck_8 fl_8_123 ly_30 (fun s4 hs4 => ?_)
  have Fs4 : Fm [18, 19, 20, 21, 22, 23, 30] [] σ s4 := by rw [hs4]; exact Fm.si Fs3 rfl
  refine wa_aload_n (i := 0) rfl rfl ?_
  refine wa_iconst (v := 0) (by decide) ?_
  refine wa_putz false (rfl) ck_8 fl_8_101 ly_30 (fun s5 hs5 => ?_)
  have Fs5 : Fm [18, 19, 20, 21, 22, 23, 30] [] σ s5 := by rw [hs5]; exact Fm.sb Fs4 rfl
  refine wa_aload_n (i := 0) rfl rfl ?_
  refine wa_iconst (v := (-1)) (by decide) ?_
  refine wa_puti ck_8 fl_8_79 ly_30 (fun s6 hs6 => ?_)
  have Fs6 : Fm [18, 19, 20, 21, 22, 23, 30] [] σ s6 := by rw [hs6]; exact Fm.si Fs5 rfl
  refine wa_aload_n (i := 0) rfl rfl ?_
  refine wa_Vv (d9 := d - 1) [] [] (sp_X8_next G (d := d - 1) (by omega) s6 ) (rfl) rfl rfl (zr (by omega)) mk_X8_next ly_30 ml_8_98 (Nat.le_of_ble_eq_true rfl) (fun s7 hs7 => ?_)
  obtain ⟨fs7, -⟩ := hs7
  have Fs7 : Fm [18, 19, 20, 21, 22, 23, 30] [] σ s7 := Fm.tr Fs6 (Fm.wd fs7 rfl rfl)
  refine wa_return (st := []) rfl rfl ?_
  exact ⟨Fs7, (by rw [(Fm.gi fs7 (q := 18) (k := 5) rfl rfl).trans ((nxq_gi_si hs6 (by decide)).trans ((nx_gi_sb hs5).trans ((nxq_gi_si hs4 (by decide)).trans (nxq_gi_si hs3 (by decide)))))]; first | assumption | (((try simp only [vp_in_iff, Int32.lt_iff_toInt_lt, Int32.le_iff_toInt_le, ← Int32.toInt_inj, Int32.reduceToInt, n_1, n_2, n_8, Int32.toNatClampNeg, Int64.lt_iff_toInt_lt, Int64.le_iff_toInt_le, ← Int64.toInt_inj, Int64.reduceToInt, Int32.toInt_toInt64, lg_cmp_ge, lg_cmp_le, lg_cmp_gt, lg_cmp_lt, lg_cmp_eq, Bool.false_eq_true, Bool.true_eq_false, reduceCtorEq, false_iff, true_iff, iff_true, iff_false, and_true, true_and, and_false, false_and, reduceIte, ite_true, ite_false, eq_self] at *)) <;> omega)), trivial⟩
set_option maxHeartbeats 4000000 in
theorem sp_X11_verify (G : kG9) {d : Nat} (hd : 4 ≤ d) (σ : St) (r1 : (gi σ 2 5).toInt ≤ 100) : Ct G M_X11_verify d [.ref 0] σ (fun r σ' => ∃ x : Int32, r = some (.int x) ∧ σ = σ' ∧ True) := by
  refine wa_start (by decide) rfl (Nat.le_of_ble_eq_true rfl) (lv := [(0, .ref 0)]) rfl o_X11_verify_0 rfl ?_
  refine wa_aload_n (i := 0) rfl rfl ?_
  refine wa_getr ck_11 fl_11_16 ly_0 rf_0_1 ?_
  refine wa_getz ck_1 fl_11_122 ly_2 ?_
  refine wa_if_eq o_X11_verify_15 (by decide) (fun h1 => ?_) (fun h1 => ?_)
  · replace h1 := bI_f (b := (gb σ 2 8)) (rfl) h1
    refine wa_aload_n (i := 0) rfl rfl ?_
    refine wa_getr ck_11 fl_11_16 ly_0 rf_0_1 ?_
    refine wa_Vi (d9 := d - 1) [] [] (sp_X1_firstWrong G (d := d - 1) (by omega) σ  (by first | assumption | exact Or.inl rfl | exact Or.inr rfl | (((try simp only [vp_in_iff, Int32.lt_iff_toInt_lt, Int32.le_iff_toInt_le, ← Int32.toInt_inj, Int32.reduceToInt, n_1, n_2, n_8, Int32.toNatClampNeg, Int64.lt_iff_toInt_lt, Int64.le_iff_toInt_le, ← Int64.toInt_inj, Int64.reduceToInt, Int32.toInt_toInt64, lg_cmp_ge, lg_cmp_le, lg_cmp_gt, lg_cmp_lt, lg_cmp_eq, Bool.false_eq_true, Bool.true_eq_false, reduceCtorEq, false_iff, true_iff, iff_true, iff_false, and_true, true_and, and_false, false_and, reduceIte, ite_true, ite_false, eq_self] at *)) <;> omega))) (rfl) rfl rfl (zr (by omega)) mk_X1_firstWrong ly_2 ml_11_191 (Nat.le_of_ble_eq_true rfl) (fun x3 s2 hs2 => ?_)
    obtain ⟨zs2, -⟩ := pI hs2
    subst zs2
    refine wa_ireturn rfl rfl ?_
    exact ⟨_, rfl, rfl, trivial⟩
  · replace h1 := bI_t (b := (gb σ 2 8)) (rfl) h1
    refine wa_bipush (v := (-105)) (by decide) ?_
    refine wa_goto o_X11_verify_22 (by decide) ?_
    refine wa_ireturn rfl rfl ?_
    exact ⟨_, rfl, rfl, trivial⟩
set_option maxHeartbeats 4000000 in
theorem sp_X11_count (G : kG9) {d : Nat} (hd : 1 ≤ d) (σ : St) (a0 : Int32) : Ct G M_X11_count d [.ref 0, .int a0] σ (fun r σ' => ∃ x : Int32, r = some (.int x) ∧ σ = σ' ∧ True) := by
  refine wa_start (by decide) rfl (Nat.le_of_ble_eq_true rfl) (lv := [(0, .ref 0), (1, .int a0)]) rfl o_X11_count_0 rfl ?_
  have ua0 := Int32.toInt_lt a0
  have wa0 := Int32.le_toInt a0
  refine wa_iload_n (i := 1) rfl rfl ?_
  refine wa_iconst (v := 4) (by decide) ?_
  refine wa_icmp_ne o_X11_count_10 (by decide) (fun h1 => ?_) (fun h1 => ?_)
  · refine wa_aload_n (i := 0) rfl rfl ?_
    refine wa_getr ck_11 fl_11_16 ly_0 rf_0_1 ?_
    refine wa_getz ck_1 fl_11_122 ly_2 ?_
    refine wa_if_eq o_X11_count_23 (by decide) (fun h2 => ?_) (fun h2 => ?_)
    · replace h2 := bI_f (b := (gb σ 2 8)) (rfl) h2
      refine wa_iload_n (i := 1) rfl rfl ?_
      refine wa_top (fun q3 hq3 => ?_)
      by_cases h4 : q3 = 0
      · refine wa_tIn (by rw [h4]; decide) (by rw [h4]; decide) (by rw [h4] <;> rfl) o_X11_count_72 (by decide) ?_
        refine wa_aload_n (i := 0) rfl rfl ?_
        refine wa_getr ck_11 fl_11_23 ly_0 rf_0_2 ?_
        refine wa_geti ck_2 fl_11_210 ly_7 ?_
        refine wa_ireturn rfl rfl ?_
        exact ⟨_, rfl, rfl, trivial⟩
      ·
        by_cases h5 : q3 = 1
        · refine wa_tIn (by rw [h5]; decide) (by rw [h5]; decide) (by rw [h5] <;> rfl) o_X11_count_80 (by decide) ?_
          refine wa_aload_n (i := 0) rfl rfl ?_
          refine wa_getr ck_11 fl_11_23 ly_0 rf_0_2 ?_
          refine wa_geti ck_2 fl_11_160 ly_7 ?_
          refine wa_ireturn rfl rfl ?_
          exact ⟨_, rfl, rfl, trivial⟩
        ·
          by_cases h6 : q3 = 2
          · refine wa_tIn (by rw [h6]; decide) (by rw [h6]; decide) (by rw [h6] <;> rfl) o_X11_count_88 (by decide) ?_
            refine wa_aload_n (i := 0) rfl rfl ?_
            refine wa_getr ck_11 fl_11_23 ly_0 rf_0_2 ?_
            refine wa_geti ck_2 fl_11_213 ly_7 ?_
            refine wa_Si (d9 := d - 1) [.int _] [] (sp_J6_bitCount_0f7a4 G (d := d - 1) (by omega) σ _) (rfl) rfl rfl (zr (by omega)) mk_J6_bitCount_0f7a4 ml_11_216 (Nat.le_of_ble_eq_true rfl) (fun x8 s7 hs7 => ?_)
            obtain ⟨zs7, -⟩ := pI hs7
            subst zs7
            refine wa_ireturn rfl rfl ?_
            exact ⟨_, rfl, rfl, trivial⟩
          ·
            by_cases h9 : q3 = 3
            · refine wa_tIn (by rw [h9]; decide) (by rw [h9]; decide) (by rw [h9] <;> rfl) o_X11_count_99 (by decide) ?_
              refine wa_aload_n (i := 0) rfl rfl ?_
              refine wa_getr ck_11 fl_11_23 ly_0 rf_0_2 ?_
              refine wa_geti ck_2 fl_11_221 ly_7 ?_
              refine wa_ireturn rfl rfl ?_
              exact ⟨_, rfl, rfl, trivial⟩
            ·
              by_cases h10 : q3 = 4
              · refine wa_tIn (by rw [h10]; decide) (by rw [h10]; decide) (by rw [h10] <;> rfl) o_X11_count_128 (by decide) ?_
                refine wa_iconst (v := (-1)) (by decide) ?_
                refine wa_ireturn rfl rfl ?_
                exact ⟨_, rfl, rfl, trivial⟩
              ·
                by_cases h11 : q3 = 5
                · refine wa_tIn (by rw [h11]; decide) (by rw [h11]; decide) (by rw [h11] <;> rfl) o_X11_count_107 (by decide) ?_
                  refine wa_aload_n (i := 0) rfl rfl ?_
                  refine wa_getr ck_11 fl_11_16 ly_0 rf_0_1 ?_
                  refine wa_geti ck_1 fl_11_224 ly_2 ?_
                  refine wa_ireturn rfl rfl ?_
                  exact ⟨_, rfl, rfl, trivial⟩
                ·
                  by_cases h12 : q3 = 6
                  · refine wa_tIn (by rw [h12]; decide) (by rw [h12]; decide) (by rw [h12] <;> rfl) o_X11_count_115 (by decide) ?_
                    refine wa_aload_n (i := 0) rfl rfl ?_
                    refine wa_getr ck_11 fl_11_16 ly_0 rf_0_1 ?_
                    refine wa_geti ck_1 fl_11_227 ly_2 ?_
                    refine wa_ireturn rfl rfl ?_
                    exact ⟨_, rfl, rfl, trivial⟩
                  ·
                    by_cases h13 : q3 = 7
                    · refine wa_tIn (by rw [h13]; decide) (by rw [h13]; decide) (by rw [h13] <;> rfl) o_X11_count_123 (by decide) ?_
                      refine wa_aload_n (i := 0) rfl rfl ?_
                      refine wa_geti ck_11 fl_11_137 ly_0 ?_
                      refine wa_ireturn rfl rfl ?_
                      exact ⟨_, rfl, rfl, trivial⟩
                    ·
                      refine wa_tOut (by (try simp only [vp_in_iff, Int32.lt_iff_toInt_lt, Int32.le_iff_toInt_le, ← Int32.toInt_inj, Int32.reduceToInt, n_1, n_2, n_8, Int32.toNatClampNeg, Int64.lt_iff_toInt_lt, Int64.le_iff_toInt_le, ← Int64.toInt_inj, Int64.reduceToInt, Int32.toInt_toInt64, lg_cmp_ge, lg_cmp_le, lg_cmp_gt, lg_cmp_lt, lg_cmp_eq] at *) <;> omega) o_X11_count_128 (by decide) ?_
                      refine wa_iconst (v := (-1)) (by decide) ?_
                      refine wa_ireturn rfl rfl ?_
                      exact ⟨_, rfl, rfl, trivial⟩
    · replace h2 := bI_t (b := (gb σ 2 8)) (rfl) h2
      refine wa_bipush (v := (-105)) (by decide) ?_
      refine wa_ireturn rfl rfl ?_
      exact ⟨_, rfl, rfl, trivial⟩
  · refine wa_aload_n (i := 0) rfl rfl ?_
    refine wa_geti ck_11 fl_11_102 ly_0 ?_
    refine wa_ireturn rfl rfl ?_
    exact ⟨_, rfl, rfl, trivial⟩
theorem pad_21h : True := trivial
