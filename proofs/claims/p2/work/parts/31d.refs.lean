set_option maxHeartbeats 4000000 in
theorem sp_X12_half (G : kG9) {d : Nat} (hd : 1 ≤ d) (σ : St) (a0 : Int32) (a1 : Int32) (r1 : 0 ≤ (gi σ 84 156).toInt ∧ (gi σ 84 156).toInt ≤ 3000) (r2 : 0 ≤ (gi σ 84 157).toInt ∧ (gi σ 84 157).toInt ≤ 16) : Ct G M_X12_half d [.ref 84, .int a0, .int a1] σ (fun r σ' => ∃ x : Int32, r = some (.int x) ∧ Fm [] [0] σ σ' ∧ True) := by
  refine wa_start (by decide) rfl (Nat.le_of_ble_eq_true rfl) (lv := [(0, .ref 84), (1, .int a0), (2, .int a1)]) rfl o_X12_half_0 rfl ?_
  have ua0 := Int32.toInt_lt a0
  have wa0 := Int32.le_toInt a0
  have ua1 := Int32.toInt_lt a1
  have wa1 := Int32.le_toInt a1
  refine wa_aload_n (i := 0) rfl rfl ?_
  refine wa_iload_n (i := 1) rfl rfl ?_
  refine wa_i2l ?_
  refine wa_lconst (v := 0) (by decide) ?_
  refine wa_aload_n (i := 0) rfl rfl ?_
  refine wa_geti ck_12 fl_12_1061 ly_84 ?_
  refine wa_iconst (v := 1) (by decide) ?_
  refine wa_isub ?_
  refine wa_top (fun v1 hv1 => ?_)
  have tv1 := i_subT hv1
  clear hv1
  refine wa_i2l ?_
  refine wa_Si (d9 := d - 1) [.long _, .long _, .long _] [.ref 84] (sp_X12_in G (d := d - 1) (by omega) σ _ _ _) (rfl) rfl rfl (zr (by omega)) mk_X12_in ml_12_504 (Nat.le_of_ble_eq_true rfl) (fun x3 s2 hs2 => ?_)
  obtain ⟨bx3, ex3, zs2, cx3_1, -⟩ := pB hs2
  subst ex3
  subst zs2
  refine wa_if_eq o_X12_half_37 (by decide) (fun h4 => ?_) (fun h4 => ?_)
  · replace h4 := bI_f (b := bx3) (rfl) h4
    have uh4_0 := iff_f cx3_1 h4
    refine wa_iconst (v := 1) (by decide) ?_
    refine wa_puti ck_12 fl_12_3 ly_84 (fun s5 hs5 => ?_)
    have Fs5 : Fm [] [0] σ s5 := by rw [hs5]; exact Fm.si (Fm.rf [] [0] σ) rfl
    refine wa_aload_n (i := 0) rfl rfl ?_
    refine wa_geti ck_12 fl_12_3 ly_84 ?_
    refine wa_rw (nxe_gi_si hs5) ?_
    refine wa_if_le o_X12_half_52 (by decide) (fun h6 => ?_) (fun h6 => ?_)
    · refine wa_aload_n (i := 0) rfl rfl ?_
      refine wa_getr ck_12 fl_12_388 ly_84 rf_84_154 ?_
      refine wa_bipush (v := 16) (by decide) ?_
      refine wa_iload_n (i := 1) rfl rfl ?_
      refine wa_imul ?_
      refine wa_top (fun v7 hv7 => ?_)
      have tv7 := i_mulT hv7
      clear hv7
      refine wa_iload_n (i := 2) rfl rfl ?_
      refine wa_iadd ?_
      refine wa_top (fun v8 hv8 => ?_)
      have tv8 := i_addT hv8
      clear hv8
      refine wa_iald ly_107 (by ((try simp only [vp_in_iff, Int32.lt_iff_toInt_lt, Int32.le_iff_toInt_le, ← Int32.toInt_inj, Int32.reduceToInt, n_1, n_2, n_8, Int32.toNatClampNeg, Int64.lt_iff_toInt_lt, Int64.le_iff_toInt_le, ← Int64.toInt_inj, Int64.reduceToInt, Int32.toInt_toInt64, lg_cmp_ge, lg_cmp_le, lg_cmp_gt, lg_cmp_lt, lg_cmp_eq, Bool.false_eq_true, Bool.true_eq_false, reduceCtorEq, false_iff, true_iff, iff_true, iff_false, and_true, true_and, and_false, false_and, reduceIte, ite_true, ite_false, eq_self] at *)) <;> omega) ?_
      refine wa_ireturn rfl rfl ?_
      exact ⟨_, rfl, Fs5, trivial⟩
    · refine wa_iconst (v := 0) (by decide) ?_
      refine wa_goto o_X12_half_63 (by decide) ?_
      refine wa_ireturn rfl rfl ?_
      exact ⟨_, rfl, Fs5, trivial⟩
  · replace h4 := bI_t (b := bx3) (rfl) h4
    have uh4_0 := iff_t cx3_1 h4
    refine wa_iload_n (i := 2) rfl rfl ?_
    refine wa_i2l ?_
    refine wa_lconst (v := 0) (by decide) ?_
    refine wa_aload_n (i := 0) rfl rfl ?_
    refine wa_geti ck_12 fl_12_1064 ly_84 ?_
    refine wa_iconst (v := 1) (by decide) ?_
    refine wa_isub ?_
    refine wa_top (fun v9 hv9 => ?_)
    have tv9 := i_subT hv9
    clear hv9
    refine wa_i2l ?_
    refine wa_Si (d9 := d - 1) [.long _, .long _, .long _] [.ref 84] (sp_X12_in G (d := d - 1) (by omega) σ _ _ _) (rfl) rfl rfl (zr (by omega)) mk_X12_in ml_12_504 (Nat.le_of_ble_eq_true rfl) (fun x11 s10 hs10 => ?_)
    obtain ⟨bx11, ex11, zs10, cx11_1, -⟩ := pB hs10
    subst ex11
    subst zs10
    refine wa_if_eq o_X12_half_37 (by decide) (fun h12 => ?_) (fun h12 => ?_)
    · replace h12 := bI_f (b := bx11) (rfl) h12
      have uh12_0 := iff_f cx11_1 h12
      refine wa_iconst (v := 1) (by decide) ?_
      refine wa_puti ck_12 fl_12_3 ly_84 (fun s13 hs13 => ?_)
      have Fs13 : Fm [] [0] σ s13 := by rw [hs13]; exact Fm.si (Fm.rf [] [0] σ) rfl
      refine wa_aload_n (i := 0) rfl rfl ?_
      refine wa_geti ck_12 fl_12_3 ly_84 ?_
      refine wa_rw (nxe_gi_si hs13) ?_
      refine wa_if_le o_X12_half_52 (by decide) (fun h14 => ?_) (fun h14 => ?_)
      · refine wa_aload_n (i := 0) rfl rfl ?_
        refine wa_getr ck_12 fl_12_388 ly_84 rf_84_154 ?_
        refine wa_bipush (v := 16) (by decide) ?_
        refine wa_iload_n (i := 1) rfl rfl ?_
        refine wa_imul ?_
        refine wa_top (fun v15 hv15 => ?_)
        have tv15 := i_mulT hv15
        clear hv15
        refine wa_iload_n (i := 2) rfl rfl ?_
        refine wa_iadd ?_
        refine wa_top (fun v16 hv16 => ?_)
        have tv16 := i_addT hv16
        clear hv16
        refine wa_iald ly_107 (by ((try simp only [vp_in_iff, Int32.lt_iff_toInt_lt, Int32.le_iff_toInt_le, ← Int32.toInt_inj, Int32.reduceToInt, n_1, n_2, n_8, Int32.toNatClampNeg, Int64.lt_iff_toInt_lt, Int64.le_iff_toInt_le, ← Int64.toInt_inj, Int64.reduceToInt, Int32.toInt_toInt64, lg_cmp_ge, lg_cmp_le, lg_cmp_gt, lg_cmp_lt, lg_cmp_eq, Bool.false_eq_true, Bool.true_eq_false, reduceCtorEq, false_iff, true_iff, iff_true, iff_false, and_true, true_and, and_false, false_and, reduceIte, ite_true, ite_false, eq_self] at *)) <;> omega) ?_
        refine wa_ireturn rfl rfl ?_
        exact ⟨_, rfl, Fs13, trivial⟩
      · refine wa_iconst (v := 0) (by decide) ?_
        refine wa_goto o_X12_half_63 (by decide) ?_
        refine wa_ireturn rfl rfl ?_
        exact ⟨_, rfl, Fs13, trivial⟩
    · replace h12 := bI_t (b := bx11) (rfl) h12
      have uh12_0 := iff_t cx11_1 h12
      refine wa_iconst (v := 0) (by decide) ?_
      refine wa_goto o_X12_half_38 (by decide) ?_
      refine wa_puti ck_12 fl_12_3 ly_84 (fun s17 hs17 => ?_)
      have Fs17 : Fm [] [0] σ s17 := by rw [hs17]; exact Fm.si (Fm.rf [] [0] σ) rfl
      refine wa_aload_n (i := 0) rfl rfl ?_
      refine wa_geti ck_12 fl_12_3 ly_84 ?_
      refine wa_rw (nxe_gi_si hs17) ?_
      refine wa_if_le o_X12_half_52 (by decide) (fun h18 => ?_) (fun h18 => ?_)
      · refine wa_aload_n (i := 0) rfl rfl ?_
        refine wa_getr ck_12 fl_12_388 ly_84 rf_84_154 ?_
        refine wa_bipush (v := 16) (by decide) ?_
        refine wa_iload_n (i := 1) rfl rfl ?_
        refine wa_imul ?_
        refine wa_top (fun v19 hv19 => ?_)
        have tv19 := i_mulT hv19
        clear hv19
        refine wa_iload_n (i := 2) rfl rfl ?_
        refine wa_iadd ?_
        refine wa_top (fun v20 hv20 => ?_)
        have tv20 := i_addT hv20
        clear hv20
        refine wa_iald ly_107 (by ((try simp only [vp_in_iff, Int32.lt_iff_toInt_lt, Int32.le_iff_toInt_le, ← Int32.toInt_inj, Int32.reduceToInt, n_1, n_2, n_8, Int32.toNatClampNeg, Int64.lt_iff_toInt_lt, Int64.le_iff_toInt_le, ← Int64.toInt_inj, Int64.reduceToInt, Int32.toInt_toInt64, lg_cmp_ge, lg_cmp_le, lg_cmp_gt, lg_cmp_lt, lg_cmp_eq, Bool.false_eq_true, Bool.true_eq_false, reduceCtorEq, false_iff, true_iff, iff_true, iff_false, and_true, true_and, and_false, false_and, reduceIte, ite_true, ite_false, eq_self] at *)) <;> omega) ?_
        refine wa_ireturn rfl rfl ?_
        exact ⟨_, rfl, Fs17, trivial⟩
      · refine wa_iconst (v := 0) (by decide) ?_
        refine wa_goto o_X12_half_63 (by decide) ?_
        refine wa_ireturn rfl rfl ?_
        exact ⟨_, rfl, Fs17, trivial⟩
set_option maxHeartbeats 4000000 in
theorem sp_X12_takes (G : kG9) {d : Nat} (hd : 1 ≤ d) (σ : St) (a0 : Int32) (a1 : Int32) (r1 : 0 ≤ (gi σ 84 156).toInt ∧ (gi σ 84 156).toInt ≤ 3000) (r2 : 0 ≤ (gi σ 84 157).toInt ∧ (gi σ 84 157).toInt ≤ 16) : Ct G M_X12_takes d [.ref 84, .int a0, .int a1] σ (fun r σ' => ∃ x : Int32, r = some (.int x) ∧ Fm [] [0] σ σ' ∧ True) := by
  refine wa_start (by decide) rfl (Nat.le_of_ble_eq_true rfl) (lv := [(0, .ref 84), (1, .int a0), (2, .int a1)]) rfl o_X12_takes_0 rfl ?_
  have ua0 := Int32.toInt_lt a0
  have wa0 := Int32.le_toInt a0
  have ua1 := Int32.toInt_lt a1
  have wa1 := Int32.le_toInt a1
  refine wa_aload_n (i := 0) rfl rfl ?_
  refine wa_iload_n (i := 1) rfl rfl ?_
  refine wa_i2l ?_
  refine wa_lconst (v := 0) (by decide) ?_
  refine wa_aload_n (i := 0) rfl rfl ?_
  refine wa_geti ck_12 fl_12_1061 ly_84 ?_
  refine wa_iconst (v := 1) (by decide) ?_
  refine wa_isub ?_
  refine wa_top (fun v1 hv1 => ?_)
  have tv1 := i_subT hv1
  clear hv1
  refine wa_i2l ?_
  refine wa_Si (d9 := d - 1) [.long _, .long _, .long _] [.ref 84] (sp_X12_in G (d := d - 1) (by omega) σ _ _ _) (rfl) rfl rfl (zr (by omega)) mk_X12_in ml_12_504 (Nat.le_of_ble_eq_true rfl) (fun x3 s2 hs2 => ?_)
  obtain ⟨bx3, ex3, zs2, cx3_1, -⟩ := pB hs2
  subst ex3
  subst zs2
  refine wa_if_eq o_X12_takes_37 (by decide) (fun h4 => ?_) (fun h4 => ?_)
  · replace h4 := bI_f (b := bx3) (rfl) h4
    have uh4_0 := iff_f cx3_1 h4
    refine wa_iconst (v := 1) (by decide) ?_
    refine wa_puti ck_12 fl_12_3 ly_84 (fun s5 hs5 => ?_)
    have Fs5 : Fm [] [0] σ s5 := by rw [hs5]; exact Fm.si (Fm.rf [] [0] σ) rfl
    refine wa_aload_n (i := 0) rfl rfl ?_
    refine wa_geti ck_12 fl_12_3 ly_84 ?_
    refine wa_rw (nxe_gi_si hs5) ?_
    refine wa_if_le o_X12_takes_52 (by decide) (fun h6 => ?_) (fun h6 => ?_)
    · refine wa_aload_n (i := 0) rfl rfl ?_
      refine wa_getr ck_12 fl_12_391 ly_84 rf_84_155 ?_
      refine wa_iload_n (i := 1) rfl rfl ?_
      refine wa_iald ly_106 (by ((try simp only [vp_in_iff, Int32.lt_iff_toInt_lt, Int32.le_iff_toInt_le, ← Int32.toInt_inj, Int32.reduceToInt, n_1, n_2, n_8, Int32.toNatClampNeg, Int64.lt_iff_toInt_lt, Int64.le_iff_toInt_le, ← Int64.toInt_inj, Int64.reduceToInt, Int32.toInt_toInt64, lg_cmp_ge, lg_cmp_le, lg_cmp_gt, lg_cmp_lt, lg_cmp_eq, Bool.false_eq_true, Bool.true_eq_false, reduceCtorEq, false_iff, true_iff, iff_true, iff_false, and_true, true_and, and_false, false_and, reduceIte, ite_true, ite_false, eq_self] at *)) <;> omega) ?_
      refine wa_iload_n (i := 2) rfl rfl ?_
      refine wa_ishr ?_
      refine wa_top (fun v7 hv7 => ?_)
      clear hv7
      refine wa_iconst (v := 1) (by decide) ?_
      refine wa_iand ?_
      refine wa_top (fun v8 hv8 => ?_)
      have tv8 := i_andT hv8
      clear hv8
      refine wa_ireturn rfl rfl ?_
      exact ⟨_, rfl, Fs5, trivial⟩
    · refine wa_iconst (v := 0) (by decide) ?_
      refine wa_goto o_X12_takes_62 (by decide) ?_
      refine wa_ireturn rfl rfl ?_
      exact ⟨_, rfl, Fs5, trivial⟩
  · replace h4 := bI_t (b := bx3) (rfl) h4
    have uh4_0 := iff_t cx3_1 h4
    refine wa_iload_n (i := 2) rfl rfl ?_
    refine wa_i2l ?_
    refine wa_lconst (v := 0) (by decide) ?_
    refine wa_aload_n (i := 0) rfl rfl ?_
    refine wa_geti ck_12 fl_12_1064 ly_84 ?_
    refine wa_iconst (v := 1) (by decide) ?_
    refine wa_isub ?_
    refine wa_top (fun v9 hv9 => ?_)
    have tv9 := i_subT hv9
    clear hv9
    refine wa_i2l ?_
    refine wa_Si (d9 := d - 1) [.long _, .long _, .long _] [.ref 84] (sp_X12_in G (d := d - 1) (by omega) σ _ _ _) (rfl) rfl rfl (zr (by omega)) mk_X12_in ml_12_504 (Nat.le_of_ble_eq_true rfl) (fun x11 s10 hs10 => ?_)
    obtain ⟨bx11, ex11, zs10, cx11_1, -⟩ := pB hs10
    subst ex11
    subst zs10
    refine wa_if_eq o_X12_takes_37 (by decide) (fun h12 => ?_) (fun h12 => ?_)
    · replace h12 := bI_f (b := bx11) (rfl) h12
      have uh12_0 := iff_f cx11_1 h12
      refine wa_iconst (v := 1) (by decide) ?_
      refine wa_puti ck_12 fl_12_3 ly_84 (fun s13 hs13 => ?_)
      have Fs13 : Fm [] [0] σ s13 := by rw [hs13]; exact Fm.si (Fm.rf [] [0] σ) rfl
      refine wa_aload_n (i := 0) rfl rfl ?_
      refine wa_geti ck_12 fl_12_3 ly_84 ?_
      refine wa_rw (nxe_gi_si hs13) ?_
      refine wa_if_le o_X12_takes_52 (by decide) (fun h14 => ?_) (fun h14 => ?_)
      · refine wa_aload_n (i := 0) rfl rfl ?_
        refine wa_getr ck_12 fl_12_391 ly_84 rf_84_155 ?_
        refine wa_iload_n (i := 1) rfl rfl ?_
        refine wa_iald ly_106 (by ((try simp only [vp_in_iff, Int32.lt_iff_toInt_lt, Int32.le_iff_toInt_le, ← Int32.toInt_inj, Int32.reduceToInt, n_1, n_2, n_8, Int32.toNatClampNeg, Int64.lt_iff_toInt_lt, Int64.le_iff_toInt_le, ← Int64.toInt_inj, Int64.reduceToInt, Int32.toInt_toInt64, lg_cmp_ge, lg_cmp_le, lg_cmp_gt, lg_cmp_lt, lg_cmp_eq, Bool.false_eq_true, Bool.true_eq_false, reduceCtorEq, false_iff, true_iff, iff_true, iff_false, and_true, true_and, and_false, false_and, reduceIte, ite_true, ite_false, eq_self] at *)) <;> omega) ?_
        refine wa_iload_n (i := 2) rfl rfl ?_
        refine wa_ishr ?_
        refine wa_top (fun v15 hv15 => ?_)
        clear hv15
        refine wa_iconst (v := 1) (by decide) ?_
        refine wa_iand ?_
        refine wa_top (fun v16 hv16 => ?_)
        have tv16 := i_andT hv16
        clear hv16
        refine wa_ireturn rfl rfl ?_
        exact ⟨_, rfl, Fs13, trivial⟩
      · refine wa_iconst (v := 0) (by decide) ?_
        refine wa_goto o_X12_takes_62 (by decide) ?_
        refine wa_ireturn rfl rfl ?_
        exact ⟨_, rfl, Fs13, trivial⟩
    · replace h12 := bI_t (b := bx11) (rfl) h12
      have uh12_0 := iff_t cx11_1 h12
      refine wa_iconst (v := 0) (by decide) ?_
      refine wa_goto o_X12_takes_38 (by decide) ?_
      refine wa_puti ck_12 fl_12_3 ly_84 (fun s17 hs17 => ?_)
      have Fs17 : Fm [] [0] σ s17 := by rw [hs17]; exact Fm.si (Fm.rf [] [0] σ) rfl
      refine wa_aload_n (i := 0) rfl rfl ?_
      refine wa_geti ck_12 fl_12_3 ly_84 ?_
      refine wa_rw (nxe_gi_si hs17) ?_
      refine wa_if_le o_X12_takes_52 (by decide) (fun h18 => ?_) (fun h18 => ?_)
      · refine wa_aload_n (i := 0) rfl rfl ?_
        refine wa_getr ck_12 fl_12_391 ly_84 rf_84_155 ?_
        refine wa_iload_n (i := 1) rfl rfl ?_
        refine wa_iald ly_106 (by ((try simp only [vp_in_iff, Int32.lt_iff_toInt_lt, Int32.le_iff_toInt_le, ← Int32.toInt_inj, Int32.reduceToInt, n_1, n_2, n_8, Int32.toNatClampNeg, Int64.lt_iff_toInt_lt, Int64.le_iff_toInt_le, ← Int64.toInt_inj, Int64.reduceToInt, Int32.toInt_toInt64, lg_cmp_ge, lg_cmp_le, lg_cmp_gt, lg_cmp_lt, lg_cmp_eq, Bool.false_eq_true, Bool.true_eq_false, reduceCtorEq, false_iff, true_iff, iff_true, iff_false, and_true, true_and, and_false, false_and, reduceIte, ite_true, ite_false, eq_self] at *)) <;> omega) ?_
        refine wa_iload_n (i := 2) rfl rfl ?_
        refine wa_ishr ?_
        refine wa_top (fun v19 hv19 => ?_)
        clear hv19
        refine wa_iconst (v := 1) (by decide) ?_
        refine wa_iand ?_
        refine wa_top (fun v20 hv20 => ?_)
        have tv20 := i_andT hv20
        clear hv20
        refine wa_ireturn rfl rfl ?_
        exact ⟨_, rfl, Fs17, trivial⟩
      · refine wa_iconst (v := 0) (by decide) ?_
        refine wa_goto o_X12_takes_62 (by decide) ?_
        refine wa_ireturn rfl rfl ?_
        exact ⟨_, rfl, Fs17, trivial⟩
set_option maxHeartbeats 4000000 in
theorem sp_X12_isRow (G : kG9) {d : Nat} (hd : 0 ≤ d) (σ : St) (a0 : Int32) (p1 : 0 ≤ a0.toInt ∧ a0.toInt < 600) : Ct G M_X12_isRow d [.ref 84, .int a0] σ (fun r σ' => ∃ x : Bool, r = some (.int (bI x)) ∧ σ = σ' ∧ True) := by
  refine wa_start (by decide) rfl (Nat.le_of_ble_eq_true rfl) (lv := [(0, .ref 84), (1, .int a0)]) rfl o_X12_isRow_0 rfl ?_
  have ua0 := Int32.toInt_lt a0
  have wa0 := Int32.le_toInt a0
  refine wa_aload_n (i := 0) rfl rfl ?_
  refine wa_getr ck_12 fl_12_397 ly_84 rf_84_159 ?_
  refine wa_iload_n (i := 1) rfl rfl ?_
  refine wa_lald ly_104 (by ((try simp only [vp_in_iff, Int32.lt_iff_toInt_lt, Int32.le_iff_toInt_le, ← Int32.toInt_inj, Int32.reduceToInt, n_1, n_2, n_8, Int32.toNatClampNeg, Int64.lt_iff_toInt_lt, Int64.le_iff_toInt_le, ← Int64.toInt_inj, Int64.reduceToInt, Int32.toInt_toInt64, lg_cmp_ge, lg_cmp_le, lg_cmp_gt, lg_cmp_lt, lg_cmp_eq, Bool.false_eq_true, Bool.true_eq_false, reduceCtorEq, false_iff, true_iff, iff_true, iff_false, and_true, true_and, and_false, false_and, reduceIte, ite_true, ite_false, eq_self] at *)) <;> omega) ?_
  refine wa_aload_n (i := 0) rfl rfl ?_
  refine wa_getl ck_12 fl_12_736 ly_84 ?_
  refine wa_lcmp ?_
  refine wa_top (fun v1 hv1 => ?_)
  have tv1 := i_cmpT hv1
  clear hv1
  refine wa_if_ne o_X12_isRow_18 (by decide) (fun h2 => ?_) (fun h2 => ?_)
  · refine wa_iconst (v := 0) (by decide) ?_
    refine wa_istore_nD (lv' := [(2, .int (bI false)), (0, .ref 84), (1, .int a0)]) (i := 2) rfl (by decide) rfl ?_
    refine wa_iconst (v := 0) (by decide) ?_
    refine wa_istore_nD (lv' := [(3, .int 0), (2, .int (bI false)), (0, .ref 84), (1, .int a0)]) (i := 3) rfl (by decide) rfl ?_
    refine wa_pick [2, 3, 1, 0] rfl ?_
    have hi4 : ∀ (n9_22 : Nat) (l2 : Bool) (l3 : Int32), ((0 ≤ l3.toInt) ∧ (True)) → (2147483647 - l3.toInt).toNat = n9_22 → WA G M_X12_isRow (ZM G M_X12_isRow d (fun r σ' => ∃ x : Bool, r = some (.int (bI x)) ∧ σ = σ' ∧ True)) B_X12_isRow_22 [(0, .ref 84), (1, .int a0), (2, .int (bI l2)), (3, .int l3)] [] σ := by
      intro n9_22
      induction n9_22 using Nat.strongRecOn with
      | _ n9_22 ih3 =>
        intro l2 l3  i9 m9_22
        obtain ⟨jhi4_0, -⟩ := i9
        have ul3 := Int32.toInt_lt l3
        have wl3 := Int32.le_toInt l3
        refine wa_iload_n (i := 3) rfl rfl ?_
        refine wa_iconst (v := 4) (by decide) ?_
        refine wa_icmp_ge o_X12_isRow_63 (by decide) (fun h5 => ?_) (fun h5 => ?_)
        · refine wa_iload_n (i := 2) rfl rfl ?_
          refine wa_zreturn l2 (rfl) rfl rfl ?_
          exact ⟨_, rfl, rfl, trivial⟩
        · have mh5 := nle_mx h5
          refine wa_iload_n (i := 2) rfl rfl ?_
          refine wa_if_eq o_X12_isRow_55 (by decide) (fun h6 => ?_) (fun h6 => ?_)
          · replace h6 := bI_f (b := l2) (rfl) h6
            refine wa_iconst (v := 0) (by decide) ?_
            refine wa_istore_nD (lv' := [(2, .int (bI false)), (0, .ref 84), (1, .int a0), (3, .int l3)]) (i := 2) rfl (by decide) rfl ?_
            refine wa_iinc (v := (1)) (lv' := fun y7 => [(3, .int y7), (2, .int (bI false)), (0, .ref 84), (1, .int a0)]) (by decide) rfl (by decide) (fun _ => rfl) (fun y7 hy7 => ?_)
            have ty7 := i_addT hy7.symm
            clear hy7
            refine wa_goto o_X12_isRow_22 (by decide) ?_
            refine wa_pick [2, 3, 1, 0] rfl ?_
            exact ih3 _ (by ((try simp only [vp_in_iff, Int32.lt_iff_toInt_lt, Int32.le_iff_toInt_le, ← Int32.toInt_inj, Int32.reduceToInt, n_1, n_2, n_8, Int32.toNatClampNeg, Int64.lt_iff_toInt_lt, Int64.le_iff_toInt_le, ← Int64.toInt_inj, Int64.reduceToInt, Int32.toInt_toInt64, lg_cmp_ge, lg_cmp_le, lg_cmp_gt, lg_cmp_lt, lg_cmp_eq, Bool.false_eq_true, Bool.true_eq_false, reduceCtorEq, false_iff, true_iff, iff_true, iff_false, and_true, true_and, and_false, false_and, reduceIte, ite_true, ite_false, eq_self] at *)) <;> omega) _ _ ⟨(by ((try simp only [vp_in_iff, Int32.lt_iff_toInt_lt, Int32.le_iff_toInt_le, ← Int32.toInt_inj, Int32.reduceToInt, n_1, n_2, n_8, Int32.toNatClampNeg, Int64.lt_iff_toInt_lt, Int64.le_iff_toInt_le, ← Int64.toInt_inj, Int64.reduceToInt, Int32.toInt_toInt64, lg_cmp_ge, lg_cmp_le, lg_cmp_gt, lg_cmp_lt, lg_cmp_eq, Bool.false_eq_true, Bool.true_eq_false, reduceCtorEq, false_iff, true_iff, iff_true, iff_false, and_true, true_and, and_false, false_and, reduceIte, ite_true, ite_false, eq_self] at *)) <;> omega), trivial⟩ rfl
          · replace h6 := bI_t (b := l2) (rfl) h6
            refine wa_aload_n (i := 0) rfl rfl ?_
            refine wa_getr ck_12 fl_12_394 ly_84 rf_84_158 ?_
            refine wa_iconst (v := 4) (by decide) ?_
            refine wa_iload_n (i := 1) rfl rfl ?_
            refine wa_imul ?_
            refine wa_top (fun v8 hv8 => ?_)
            have tv8 := i_mulT hv8
            clear hv8
            refine wa_iload_n (i := 3) rfl rfl ?_
            refine wa_iadd ?_
            refine wa_top (fun v9 hv9 => ?_)
            have tv9 := i_addT hv9
            clear hv9
            refine wa_lald ly_105 (by ((try simp only [vp_in_iff, Int32.lt_iff_toInt_lt, Int32.le_iff_toInt_le, ← Int32.toInt_inj, Int32.reduceToInt, n_1, n_2, n_8, Int32.toNatClampNeg, Int64.lt_iff_toInt_lt, Int64.le_iff_toInt_le, ← Int64.toInt_inj, Int64.reduceToInt, Int32.toInt_toInt64, lg_cmp_ge, lg_cmp_le, lg_cmp_gt, lg_cmp_lt, lg_cmp_eq, Bool.false_eq_true, Bool.true_eq_false, reduceCtorEq, false_iff, true_iff, iff_true, iff_false, and_true, true_and, and_false, false_and, reduceIte, ite_true, ite_false, eq_self] at *)) <;> omega) ?_
            refine wa_aload_n (i := 0) rfl rfl ?_
            refine wa_getr ck_12 fl_12_262 ly_84 rf_84_100 ?_
            refine wa_iload_n (i := 3) rfl rfl ?_
            refine wa_lald ly_147 (by ((try simp only [vp_in_iff, Int32.lt_iff_toInt_lt, Int32.le_iff_toInt_le, ← Int32.toInt_inj, Int32.reduceToInt, n_1, n_2, n_8, Int32.toNatClampNeg, Int64.lt_iff_toInt_lt, Int64.le_iff_toInt_le, ← Int64.toInt_inj, Int64.reduceToInt, Int32.toInt_toInt64, lg_cmp_ge, lg_cmp_le, lg_cmp_gt, lg_cmp_lt, lg_cmp_eq, Bool.false_eq_true, Bool.true_eq_false, reduceCtorEq, false_iff, true_iff, iff_true, iff_false, and_true, true_and, and_false, false_and, reduceIte, ite_true, ite_false, eq_self] at *)) <;> omega) ?_
            refine wa_lcmp ?_
            refine wa_top (fun v10 hv10 => ?_)
            have tv10 := i_cmpT hv10
            clear hv10
            refine wa_if_ne o_X12_isRow_55 (by decide) (fun h11 => ?_) (fun h11 => ?_)
            · refine wa_iconst (v := 0) (by decide) ?_
              refine wa_istore_nD (lv' := [(2, .int (bI false)), (0, .ref 84), (1, .int a0), (3, .int l3)]) (i := 2) rfl (by decide) rfl ?_
              refine wa_iinc (v := (1)) (lv' := fun y12 => [(3, .int y12), (2, .int (bI false)), (0, .ref 84), (1, .int a0)]) (by decide) rfl (by decide) (fun _ => rfl) (fun y12 hy12 => ?_)
              have ty12 := i_addT hy12.symm
              clear hy12
              refine wa_goto o_X12_isRow_22 (by decide) ?_
              refine wa_pick [2, 3, 1, 0] rfl ?_
              exact ih3 _ (by ((try simp only [vp_in_iff, Int32.lt_iff_toInt_lt, Int32.le_iff_toInt_le, ← Int32.toInt_inj, Int32.reduceToInt, n_1, n_2, n_8, Int32.toNatClampNeg, Int64.lt_iff_toInt_lt, Int64.le_iff_toInt_le, ← Int64.toInt_inj, Int64.reduceToInt, Int32.toInt_toInt64, lg_cmp_ge, lg_cmp_le, lg_cmp_gt, lg_cmp_lt, lg_cmp_eq, Bool.false_eq_true, Bool.true_eq_false, reduceCtorEq, false_iff, true_iff, iff_true, iff_false, and_true, true_and, and_false, false_and, reduceIte, ite_true, ite_false, eq_self] at *)) <;> omega) _ _ ⟨(by ((try simp only [vp_in_iff, Int32.lt_iff_toInt_lt, Int32.le_iff_toInt_le, ← Int32.toInt_inj, Int32.reduceToInt, n_1, n_2, n_8, Int32.toNatClampNeg, Int64.lt_iff_toInt_lt, Int64.le_iff_toInt_le, ← Int64.toInt_inj, Int64.reduceToInt, Int32.toInt_toInt64, lg_cmp_ge, lg_cmp_le, lg_cmp_gt, lg_cmp_lt, lg_cmp_eq, Bool.false_eq_true, Bool.true_eq_false, reduceCtorEq, false_iff, true_iff, iff_true, iff_false, and_true, true_and, and_false, false_and, reduceIte, ite_true, ite_false, eq_self] at *)) <;> omega), trivial⟩ rfl
            · refine wa_iconst (v := 1) (by decide) ?_
              refine wa_goto o_X12_isRow_56 (by decide) ?_
              refine wa_istore_nD (lv' := [(2, .int (bI true)), (0, .ref 84), (1, .int a0), (3, .int l3)]) (i := 2) rfl (by decide) rfl ?_
              refine wa_iinc (v := (1)) (lv' := fun y13 => [(3, .int y13), (2, .int (bI true)), (0, .ref 84), (1, .int a0)]) (by decide) rfl (by decide) (fun _ => rfl) (fun y13 hy13 => ?_)
              have ty13 := i_addT hy13.symm
              clear hy13
              refine wa_goto o_X12_isRow_22 (by decide) ?_
              refine wa_pick [2, 3, 1, 0] rfl ?_
              exact ih3 _ (by ((try simp only [vp_in_iff, Int32.lt_iff_toInt_lt, Int32.le_iff_toInt_le, ← Int32.toInt_inj, Int32.reduceToInt, n_1, n_2, n_8, Int32.toNatClampNeg, Int64.lt_iff_toInt_lt, Int64.le_iff_toInt_le, ← Int64.toInt_inj, Int64.reduceToInt, Int32.toInt_toInt64, lg_cmp_ge, lg_cmp_le, lg_cmp_gt, lg_cmp_lt, lg_cmp_eq, Bool.false_eq_true, Bool.true_eq_false, reduceCtorEq, false_iff, true_iff, iff_true, iff_false, and_true, true_and, and_false, false_and, reduceIte, ite_true, ite_false, eq_self] at *)) <;> omega) _ _ ⟨(by ((try simp only [vp_in_iff, Int32.lt_iff_toInt_lt, Int32.le_iff_toInt_le, ← Int32.toInt_inj, Int32.reduceToInt, n_1, n_2, n_8, Int32.toNatClampNeg, Int64.lt_iff_toInt_lt, Int64.le_iff_toInt_le, ← Int64.toInt_inj, Int64.reduceToInt, Int32.toInt_toInt64, lg_cmp_ge, lg_cmp_le, lg_cmp_gt, lg_cmp_lt, lg_cmp_eq, Bool.false_eq_true, Bool.true_eq_false, reduceCtorEq, false_iff, true_iff, iff_true, iff_false, and_true, true_and, and_false, false_and, reduceIte, ite_true, ite_false, eq_self] at *)) <;> omega), trivial⟩ rfl
    exact hi4 _ _ _ ⟨(by ((try simp only [vp_in_iff, Int32.lt_iff_toInt_lt, Int32.le_iff_toInt_le, ← Int32.toInt_inj, Int32.reduceToInt, n_1, n_2, n_8, Int32.toNatClampNeg, Int64.lt_iff_toInt_lt, Int64.le_iff_toInt_le, ← Int64.toInt_inj, Int64.reduceToInt, Int32.toInt_toInt64, lg_cmp_ge, lg_cmp_le, lg_cmp_gt, lg_cmp_lt, lg_cmp_eq, Bool.false_eq_true, Bool.true_eq_false, reduceCtorEq, false_iff, true_iff, iff_true, iff_false, and_true, true_and, and_false, false_and, reduceIte, ite_true, ite_false, eq_self] at *)) <;> omega), trivial⟩ rfl
  · refine wa_iconst (v := 1) (by decide) ?_
    refine wa_goto o_X12_isRow_19 (by decide) ?_
    refine wa_istore_nD (lv' := [(2, .int (bI true)), (0, .ref 84), (1, .int a0)]) (i := 2) rfl (by decide) rfl ?_
    refine wa_iconst (v := 0) (by decide) ?_
    refine wa_istore_nD (lv' := [(3, .int 0), (2, .int (bI true)), (0, .ref 84), (1, .int a0)]) (i := 3) rfl (by decide) rfl ?_
    refine wa_pick [2, 3, 1, 0] rfl ?_
    have hi15 : ∀ (n9_22 : Nat) (l2 : Bool) (l3 : Int32), ((0 ≤ l3.toInt) ∧ (True)) → (2147483647 - l3.toInt).toNat = n9_22 → WA G M_X12_isRow (ZM G M_X12_isRow d (fun r σ' => ∃ x : Bool, r = some (.int (bI x)) ∧ σ = σ' ∧ True)) B_X12_isRow_22 [(0, .ref 84), (1, .int a0), (2, .int (bI l2)), (3, .int l3)] [] σ := by
      intro n9_22
      induction n9_22 using Nat.strongRecOn with
      | _ n9_22 ih14 =>
        intro l2 l3  i9 m9_22
        obtain ⟨jhi15_0, -⟩ := i9
        have ul3 := Int32.toInt_lt l3
        have wl3 := Int32.le_toInt l3
        refine wa_iload_n (i := 3) rfl rfl ?_
        refine wa_iconst (v := 4) (by decide) ?_
        refine wa_icmp_ge o_X12_isRow_63 (by decide) (fun h16 => ?_) (fun h16 => ?_)
        · refine wa_iload_n (i := 2) rfl rfl ?_
          refine wa_zreturn l2 (rfl) rfl rfl ?_
          exact ⟨_, rfl, rfl, trivial⟩
        · have mh16 := nle_mx h16
          refine wa_iload_n (i := 2) rfl rfl ?_
          refine wa_if_eq o_X12_isRow_55 (by decide) (fun h17 => ?_) (fun h17 => ?_)
          · replace h17 := bI_f (b := l2) (rfl) h17
            refine wa_iconst (v := 0) (by decide) ?_
            refine wa_istore_nD (lv' := [(2, .int (bI false)), (0, .ref 84), (1, .int a0), (3, .int l3)]) (i := 2) rfl (by decide) rfl ?_
            refine wa_iinc (v := (1)) (lv' := fun y18 => [(3, .int y18), (2, .int (bI false)), (0, .ref 84), (1, .int a0)]) (by decide) rfl (by decide) (fun _ => rfl) (fun y18 hy18 => ?_)
            have ty18 := i_addT hy18.symm
            clear hy18
            refine wa_goto o_X12_isRow_22 (by decide) ?_
            refine wa_pick [2, 3, 1, 0] rfl ?_
            exact ih14 _ (by ((try simp only [vp_in_iff, Int32.lt_iff_toInt_lt, Int32.le_iff_toInt_le, ← Int32.toInt_inj, Int32.reduceToInt, n_1, n_2, n_8, Int32.toNatClampNeg, Int64.lt_iff_toInt_lt, Int64.le_iff_toInt_le, ← Int64.toInt_inj, Int64.reduceToInt, Int32.toInt_toInt64, lg_cmp_ge, lg_cmp_le, lg_cmp_gt, lg_cmp_lt, lg_cmp_eq, Bool.false_eq_true, Bool.true_eq_false, reduceCtorEq, false_iff, true_iff, iff_true, iff_false, and_true, true_and, and_false, false_and, reduceIte, ite_true, ite_false, eq_self] at *)) <;> omega) _ _ ⟨(by ((try simp only [vp_in_iff, Int32.lt_iff_toInt_lt, Int32.le_iff_toInt_le, ← Int32.toInt_inj, Int32.reduceToInt, n_1, n_2, n_8, Int32.toNatClampNeg, Int64.lt_iff_toInt_lt, Int64.le_iff_toInt_le, ← Int64.toInt_inj, Int64.reduceToInt, Int32.toInt_toInt64, lg_cmp_ge, lg_cmp_le, lg_cmp_gt, lg_cmp_lt, lg_cmp_eq, Bool.false_eq_true, Bool.true_eq_false, reduceCtorEq, false_iff, true_iff, iff_true, iff_false, and_true, true_and, and_false, false_and, reduceIte, ite_true, ite_false, eq_self] at *)) <;> omega), trivial⟩ rfl
          · replace h17 := bI_t (b := l2) (rfl) h17
            refine wa_aload_n (i := 0) rfl rfl ?_
            refine wa_getr ck_12 fl_12_394 ly_84 rf_84_158 ?_
            refine wa_iconst (v := 4) (by decide) ?_
            refine wa_iload_n (i := 1) rfl rfl ?_
            refine wa_imul ?_
            refine wa_top (fun v19 hv19 => ?_)
            have tv19 := i_mulT hv19
            clear hv19
            refine wa_iload_n (i := 3) rfl rfl ?_
            refine wa_iadd ?_
            refine wa_top (fun v20 hv20 => ?_)
            have tv20 := i_addT hv20
            clear hv20
            refine wa_lald ly_105 (by ((try simp only [vp_in_iff, Int32.lt_iff_toInt_lt, Int32.le_iff_toInt_le, ← Int32.toInt_inj, Int32.reduceToInt, n_1, n_2, n_8, Int32.toNatClampNeg, Int64.lt_iff_toInt_lt, Int64.le_iff_toInt_le, ← Int64.toInt_inj, Int64.reduceToInt, Int32.toInt_toInt64, lg_cmp_ge, lg_cmp_le, lg_cmp_gt, lg_cmp_lt, lg_cmp_eq, Bool.false_eq_true, Bool.true_eq_false, reduceCtorEq, false_iff, true_iff, iff_true, iff_false, and_true, true_and, and_false, false_and, reduceIte, ite_true, ite_false, eq_self] at *)) <;> omega) ?_
            refine wa_aload_n (i := 0) rfl rfl ?_
            refine wa_getr ck_12 fl_12_262 ly_84 rf_84_100 ?_
            refine wa_iload_n (i := 3) rfl rfl ?_
            refine wa_lald ly_147 (by ((try simp only [vp_in_iff, Int32.lt_iff_toInt_lt, Int32.le_iff_toInt_le, ← Int32.toInt_inj, Int32.reduceToInt, n_1, n_2, n_8, Int32.toNatClampNeg, Int64.lt_iff_toInt_lt, Int64.le_iff_toInt_le, ← Int64.toInt_inj, Int64.reduceToInt, Int32.toInt_toInt64, lg_cmp_ge, lg_cmp_le, lg_cmp_gt, lg_cmp_lt, lg_cmp_eq, Bool.false_eq_true, Bool.true_eq_false, reduceCtorEq, false_iff, true_iff, iff_true, iff_false, and_true, true_and, and_false, false_and, reduceIte, ite_true, ite_false, eq_self] at *)) <;> omega) ?_
            refine wa_lcmp ?_
            refine wa_top (fun v21 hv21 => ?_)
            have tv21 := i_cmpT hv21
            clear hv21
            refine wa_if_ne o_X12_isRow_55 (by decide) (fun h22 => ?_) (fun h22 => ?_)
            · refine wa_iconst (v := 0) (by decide) ?_
              refine wa_istore_nD (lv' := [(2, .int (bI false)), (0, .ref 84), (1, .int a0), (3, .int l3)]) (i := 2) rfl (by decide) rfl ?_
              refine wa_iinc (v := (1)) (lv' := fun y23 => [(3, .int y23), (2, .int (bI false)), (0, .ref 84), (1, .int a0)]) (by decide) rfl (by decide) (fun _ => rfl) (fun y23 hy23 => ?_)
              have ty23 := i_addT hy23.symm
              clear hy23
              refine wa_goto o_X12_isRow_22 (by decide) ?_
              refine wa_pick [2, 3, 1, 0] rfl ?_
              exact ih14 _ (by ((try simp only [vp_in_iff, Int32.lt_iff_toInt_lt, Int32.le_iff_toInt_le, ← Int32.toInt_inj, Int32.reduceToInt, n_1, n_2, n_8, Int32.toNatClampNeg, Int64.lt_iff_toInt_lt, Int64.le_iff_toInt_le, ← Int64.toInt_inj, Int64.reduceToInt, Int32.toInt_toInt64, lg_cmp_ge, lg_cmp_le, lg_cmp_gt, lg_cmp_lt, lg_cmp_eq, Bool.false_eq_true, Bool.true_eq_false, reduceCtorEq, false_iff, true_iff, iff_true, iff_false, and_true, true_and, and_false, false_and, reduceIte, ite_true, ite_false, eq_self] at *)) <;> omega) _ _ ⟨(by ((try simp only [vp_in_iff, Int32.lt_iff_toInt_lt, Int32.le_iff_toInt_le, ← Int32.toInt_inj, Int32.reduceToInt, n_1, n_2, n_8, Int32.toNatClampNeg, Int64.lt_iff_toInt_lt, Int64.le_iff_toInt_le, ← Int64.toInt_inj, Int64.reduceToInt, Int32.toInt_toInt64, lg_cmp_ge, lg_cmp_le, lg_cmp_gt, lg_cmp_lt, lg_cmp_eq, Bool.false_eq_true, Bool.true_eq_false, reduceCtorEq, false_iff, true_iff, iff_true, iff_false, and_true, true_and, and_false, false_and, reduceIte, ite_true, ite_false, eq_self] at *)) <;> omega), trivial⟩ rfl
            · refine wa_iconst (v := 1) (by decide) ?_
              refine wa_goto o_X12_isRow_56 (by decide) ?_
              refine wa_istore_nD (lv' := [(2, .int (bI true)), (0, .ref 84), (1, .int a0), (3, .int l3)]) (i := 2) rfl (by decide) rfl ?_
              refine wa_iinc (v := (1)) (lv' := fun y24 => [(3, .int y24), (2, .int (bI true)), (0, .ref 84), (1, .int a0)]) (by decide) rfl (by decide) (fun _ => rfl) (fun y24 hy24 => ?_)
              have ty24 := i_addT hy24.symm
              clear hy24
              refine wa_goto o_X12_isRow_22 (by decide) ?_
              refine wa_pick [2, 3, 1, 0] rfl ?_
              exact ih14 _ (by ((try simp only [vp_in_iff, Int32.lt_iff_toInt_lt, Int32.le_iff_toInt_le, ← Int32.toInt_inj, Int32.reduceToInt, n_1, n_2, n_8, Int32.toNatClampNeg, Int64.lt_iff_toInt_lt, Int64.le_iff_toInt_le, ← Int64.toInt_inj, Int64.reduceToInt, Int32.toInt_toInt64, lg_cmp_ge, lg_cmp_le, lg_cmp_gt, lg_cmp_lt, lg_cmp_eq, Bool.false_eq_true, Bool.true_eq_false, reduceCtorEq, false_iff, true_iff, iff_true, iff_false, and_true, true_and, and_false, false_and, reduceIte, ite_true, ite_false, eq_self] at *)) <;> omega) _ _ ⟨(by ((try simp only [vp_in_iff, Int32.lt_iff_toInt_lt, Int32.le_iff_toInt_le, ← Int32.toInt_inj, Int32.reduceToInt, n_1, n_2, n_8, Int32.toNatClampNeg, Int64.lt_iff_toInt_lt, Int64.le_iff_toInt_le, ← Int64.toInt_inj, Int64.reduceToInt, Int32.toInt_toInt64, lg_cmp_ge, lg_cmp_le, lg_cmp_gt, lg_cmp_lt, lg_cmp_eq, Bool.false_eq_true, Bool.true_eq_false, reduceCtorEq, false_iff, true_iff, iff_true, iff_false, and_true, true_and, and_false, false_and, reduceIte, ite_true, ite_false, eq_self] at *)) <;> omega), trivial⟩ rfl
    exact hi15 _ _ _ ⟨(by ((try simp only [vp_in_iff, Int32.lt_iff_toInt_lt, Int32.le_iff_toInt_le, ← Int32.toInt_inj, Int32.reduceToInt, n_1, n_2, n_8, Int32.toNatClampNeg, Int64.lt_iff_toInt_lt, Int64.le_iff_toInt_le, ← Int64.toInt_inj, Int64.reduceToInt, Int32.toInt_toInt64, lg_cmp_ge, lg_cmp_le, lg_cmp_gt, lg_cmp_lt, lg_cmp_eq, Bool.false_eq_true, Bool.true_eq_false, reduceCtorEq, false_iff, true_iff, iff_true, iff_false, and_true, true_and, and_false, false_and, reduceIte, ite_true, ite_false, eq_self] at *)) <;> omega), trivial⟩ rfl
set_option maxHeartbeats 4000000 in
theorem sp_X12_addRow (G : kG9) {d : Nat} (hd : 0 ≤ d) (σ : St) (r1 : 0 ≤ (gi σ 84 160).toInt ∧ (gi σ 84 160).toInt ≤ 599) : Ct G M_X12_addRow d [.ref 84] σ (fun r σ' => Fm [104, 105] [160] σ σ' ∧ ((gi σ' 84 160).toInt = (gi σ 84 160).toInt + 1) ∧ True) := by
  refine wa_start (by decide) rfl (Nat.le_of_ble_eq_true rfl) (lv := [(0, .ref 84)]) rfl o_X12_addRow_0 rfl ?_
  refine wa_iconst (v := 0) (by decide) ?_
  refine wa_istore_nD (lv' := [(1, .int 0), (0, .ref 84)]) (i := 1) rfl (by decide) rfl ?_
  refine wa_pick [1, 0] rfl ?_
  have hi3 : ∀ (n9_2 : Nat) (l1 : Int32) (s1 : St), ((Fm [104, 105] [160] σ s1) ∧ (gi s1 84 160 = gi σ 84 160) ∧ (gl s1 84 101 = gl σ 84 101) ∧ (0 ≤ l1.toInt) ∧ (True)) → (2147483647 - l1.toInt).toNat = n9_2 → WA G M_X12_addRow (ZM G M_X12_addRow d (fun r σ' => Fm [104, 105] [160] σ σ' ∧ ((gi σ' 84 160).toInt = (gi σ 84 160).toInt + 1) ∧ True)) B_X12_addRow_2 [(0, .ref 84), (1, .int l1)] [] s1 := by
    intro n9_2
    induction n9_2 using Nat.strongRecOn with
    | _ n9_2 ih2 =>
      intro l1 s1 i9 m9_2
      obtain ⟨Fs1, khi3_0, khi3_1, jhi3_0, -⟩ := i9
      have ul1 := Int32.toInt_lt l1
      have wl1 := Int32.le_toInt l1
      refine wa_iload_n (i := 1) rfl rfl ?_
      refine wa_iconst (v := 4) (by decide) ?_
      refine wa_icmp_ge o_X12_addRow_32 (by decide) (fun h4 => ?_) (fun h4 => ?_)
      · refine wa_aload_n (i := 0) rfl rfl ?_
        refine wa_getr ck_12 fl_12_397 ly_84 rf_84_159 ?_
        refine wa_aload_n (i := 0) rfl rfl ?_
        refine wa_geti ck_12 fl_12_1067 ly_84 ?_
        refine wa_rw (khi3_0) ?_
        refine wa_aload_n (i := 0) rfl rfl ?_
        refine wa_getl ck_12 fl_12_736 ly_84 ?_
        refine wa_rwl (khi3_1) ?_
        refine wa_last ly_104 (by ((try simp only [vp_in_iff, Int32.lt_iff_toInt_lt, Int32.le_iff_toInt_le, ← Int32.toInt_inj, Int32.reduceToInt, n_1, n_2, n_8, Int32.toNatClampNeg, Int64.lt_iff_toInt_lt, Int64.le_iff_toInt_le, ← Int64.toInt_inj, Int64.reduceToInt, Int32.toInt_toInt64, lg_cmp_ge, lg_cmp_le, lg_cmp_gt, lg_cmp_lt, lg_cmp_eq, Bool.false_eq_true, Bool.true_eq_false, reduceCtorEq, false_iff, true_iff, iff_true, iff_false, and_true, true_and, and_false, false_and, reduceIte, ite_true, ite_false, eq_self] at *)) <;> omega) (fun s5 hs5 => ?_)
        have Fs5 : Fm [104, 105] [160] σ s5 := by rw [hs5]; exact Fm.sl Fs1 rfl
        refine wa_aload_n (i := 0) rfl rfl ?_
        refine wa_dup rfl ?_
        refine wa_geti ck_12 fl_12_1067 ly_84 ?_
        refine wa_rw ((nx_gi_sl hs5).trans (khi3_0)) ?_
        refine wa_iconst (v := 1) (by decide) ?_
        refine wa_iadd ?_
        refine wa_top (fun v6 hv6 => ?_)
        have tv6 := i_addT hv6
        clear hv6
        refine wa_puti ck_12 fl_12_1067 ly_84 (fun s7 hs7 => ?_)
        have Fs7 : Fm [104, 105] [160] σ s7 := by rw [hs7]; exact Fm.si Fs5 rfl
        refine wa_return (st := []) rfl rfl ?_
        exact ⟨Fs7, (by rw [nxe_gi_si hs7]; first | assumption | (((try simp only [vp_in_iff, Int32.lt_iff_toInt_lt, Int32.le_iff_toInt_le, ← Int32.toInt_inj, Int32.reduceToInt, n_1, n_2, n_8, Int32.toNatClampNeg, Int64.lt_iff_toInt_lt, Int64.le_iff_toInt_le, ← Int64.toInt_inj, Int64.reduceToInt, Int32.toInt_toInt64, lg_cmp_ge, lg_cmp_le, lg_cmp_gt, lg_cmp_lt, lg_cmp_eq, Bool.false_eq_true, Bool.true_eq_false, reduceCtorEq, false_iff, true_iff, iff_true, iff_false, and_true, true_and, and_false, false_and, reduceIte, ite_true, ite_false, eq_self] at *)) <;> omega)), trivial⟩
      · have mh4 := nle_mx h4
        refine wa_aload_n (i := 0) rfl rfl ?_
        refine wa_getr ck_12 fl_12_394 ly_84 rf_84_158 ?_
        refine wa_iconst (v := 4) (by decide) ?_
        refine wa_aload_n (i := 0) rfl rfl ?_
        refine wa_geti ck_12 fl_12_1067 ly_84 ?_
        refine wa_rw (khi3_0) ?_
        refine wa_imul ?_
        refine wa_top (fun v8 hv8 => ?_)
        have tv8 := i_mulT hv8
        clear hv8
        refine wa_iload_n (i := 1) rfl rfl ?_
        refine wa_iadd ?_
        refine wa_top (fun v9 hv9 => ?_)
        have tv9 := i_addT hv9
        clear hv9
        refine wa_aload_n (i := 0) rfl rfl ?_
        refine wa_getr ck_12 fl_12_262 ly_84 rf_84_100 ?_
        refine wa_iload_n (i := 1) rfl rfl ?_
        refine wa_lald ly_147 (by ((try simp only [vp_in_iff, Int32.lt_iff_toInt_lt, Int32.le_iff_toInt_le, ← Int32.toInt_inj, Int32.reduceToInt, n_1, n_2, n_8, Int32.toNatClampNeg, Int64.lt_iff_toInt_lt, Int64.le_iff_toInt_le, ← Int64.toInt_inj, Int64.reduceToInt, Int32.toInt_toInt64, lg_cmp_ge, lg_cmp_le, lg_cmp_gt, lg_cmp_lt, lg_cmp_eq, Bool.false_eq_true, Bool.true_eq_false, reduceCtorEq, false_iff, true_iff, iff_true, iff_false, and_true, true_and, and_false, false_and, reduceIte, ite_true, ite_false, eq_self] at *)) <;> omega) ?_
        refine wa_last ly_105 (by ((try simp only [vp_in_iff, Int32.lt_iff_toInt_lt, Int32.le_iff_toInt_le, ← Int32.toInt_inj, Int32.reduceToInt, n_1, n_2, n_8, Int32.toNatClampNeg, Int64.lt_iff_toInt_lt, Int64.le_iff_toInt_le, ← Int64.toInt_inj, Int64.reduceToInt, Int32.toInt_toInt64, lg_cmp_ge, lg_cmp_le, lg_cmp_gt, lg_cmp_lt, lg_cmp_eq, Bool.false_eq_true, Bool.true_eq_false, reduceCtorEq, false_iff, true_iff, iff_true, iff_false, and_true, true_and, and_false, false_and, reduceIte, ite_true, ite_false, eq_self] at *)) <;> omega) (fun s10 hs10 => ?_)
        have Fs10 : Fm [104, 105] [160] σ s10 := by rw [hs10]; exact Fm.sl Fs1 rfl
        refine wa_iinc (v := (1)) (lv' := fun y11 => [(1, .int y11), (0, .ref 84)]) (by decide) rfl (by decide) (fun _ => rfl) (fun y11 hy11 => ?_)
        have ty11 := i_addT hy11.symm
        clear hy11
        refine wa_goto o_X12_addRow_2 (by decide) ?_
        refine wa_pick [1, 0] rfl ?_
        exact ih2 _ (by ((try simp only [vp_in_iff, Int32.lt_iff_toInt_lt, Int32.le_iff_toInt_le, ← Int32.toInt_inj, Int32.reduceToInt, n_1, n_2, n_8, Int32.toNatClampNeg, Int64.lt_iff_toInt_lt, Int64.le_iff_toInt_le, ← Int64.toInt_inj, Int64.reduceToInt, Int32.toInt_toInt64, lg_cmp_ge, lg_cmp_le, lg_cmp_gt, lg_cmp_lt, lg_cmp_eq, Bool.false_eq_true, Bool.true_eq_false, reduceCtorEq, false_iff, true_iff, iff_true, iff_false, and_true, true_and, and_false, false_and, reduceIte, ite_true, ite_false, eq_self] at *)) <;> omega) _ _ ⟨Fs10, ((nx_gi_sl hs10).trans (khi3_0)), ((nxq_gl_sl hs10 (by decide)).trans (khi3_1)), (by ((try simp only [vp_in_iff, Int32.lt_iff_toInt_lt, Int32.le_iff_toInt_le, ← Int32.toInt_inj, Int32.reduceToInt, n_1, n_2, n_8, Int32.toNatClampNeg, Int64.lt_iff_toInt_lt, Int64.le_iff_toInt_le, ← Int64.toInt_inj, Int64.reduceToInt, Int32.toInt_toInt64, lg_cmp_ge, lg_cmp_le, lg_cmp_gt, lg_cmp_lt, lg_cmp_eq, Bool.false_eq_true, Bool.true_eq_false, reduceCtorEq, false_iff, true_iff, iff_true, iff_false, and_true, true_and, and_false, false_and, reduceIte, ite_true, ite_false, eq_self] at *)) <;> omega), trivial⟩ rfl
  exact hi3 _ _ _ ⟨(Fm.rf [104, 105] [160] σ), (rfl), (rfl), (by ((try simp only [vp_in_iff, Int32.lt_iff_toInt_lt, Int32.le_iff_toInt_le, ← Int32.toInt_inj, Int32.reduceToInt, n_1, n_2, n_8, Int32.toNatClampNeg, Int64.lt_iff_toInt_lt, Int64.le_iff_toInt_le, ← Int64.toInt_inj, Int64.reduceToInt, Int32.toInt_toInt64, lg_cmp_ge, lg_cmp_le, lg_cmp_gt, lg_cmp_lt, lg_cmp_eq, Bool.false_eq_true, Bool.true_eq_false, reduceCtorEq, false_iff, true_iff, iff_true, iff_false, and_true, true_and, and_false, false_and, reduceIte, ite_true, ite_false, eq_self] at *)) <;> omega), trivial⟩ rfl
set_option maxHeartbeats 4000000 in
theorem sp_X12_addNewRow (G : kG9) {d : Nat} (hd : 1 ≤ d) (σ : St) (r1 : 0 ≤ (gi σ 84 160).toInt ∧ (gi σ 84 160).toInt ≤ 599) : Ct G M_X12_addNewRow d [.ref 84] σ (fun r σ' => Fm [104, 105] [160] σ σ' ∧ ((gi σ 84 160).toInt ≤ (gi σ' 84 160).toInt ∧ (gi σ' 84 160).toInt ≤ (gi σ 84 160).toInt + 1) ∧ True) := by
  refine wa_start (by decide) rfl (Nat.le_of_ble_eq_true rfl) (lv := [(0, .ref 84)]) rfl o_X12_addNewRow_0 rfl ?_
  refine wa_iconst (v := 0) (by decide) ?_
  refine wa_istore_nD (lv' := [(1, .int 0), (0, .ref 84)]) (i := 1) rfl (by decide) rfl ?_
  refine wa_pick [1, 0] rfl ?_
  have hi3 : ∀ (n9_2 : Nat) (l1 : Int32) (s1 : St), ((Fm [104, 105] [160] σ s1) ∧ (gi s1 84 160 = gi σ 84 160) ∧ (0 ≤ l1.toInt) ∧ (True)) → (2147483647 - l1.toInt).toNat = n9_2 → WA G M_X12_addNewRow (ZM G M_X12_addNewRow d (fun r σ' => Fm [104, 105] [160] σ σ' ∧ ((gi σ 84 160).toInt ≤ (gi σ' 84 160).toInt ∧ (gi σ' 84 160).toInt ≤ (gi σ 84 160).toInt + 1) ∧ True)) B_X12_addNewRow_2 [(0, .ref 84), (1, .int l1)] [] s1 := by
    intro n9_2
    induction n9_2 using Nat.strongRecOn with
    | _ n9_2 ih2 =>
      intro l1 s1 i9 m9_2
      obtain ⟨Fs1, khi3_0, jhi3_0, -⟩ := i9
      have ul1 := Int32.toInt_lt l1
      have wl1 := Int32.le_toInt l1
      refine wa_iload_n (i := 1) rfl rfl ?_
      refine wa_aload_n (i := 0) rfl rfl ?_
      refine wa_geti ck_12 fl_12_1067 ly_84 ?_
      refine wa_rw (khi3_0) ?_
      refine wa_icmp_ge o_X12_addNewRow_25 (by decide) (fun h4 => ?_) (fun h4 => ?_)
      · refine wa_aload_n (i := 0) rfl rfl ?_
        refine wa_Vv (d9 := d - 1) [] [] (sp_X12_addRow G (d := d - 1) (by omega) s1  (by rw [khi3_0]; first | assumption | exact Or.inl rfl | exact Or.inr rfl | (((try simp only [vp_in_iff, Int32.lt_iff_toInt_lt, Int32.le_iff_toInt_le, ← Int32.toInt_inj, Int32.reduceToInt, n_1, n_2, n_8, Int32.toNatClampNeg, Int64.lt_iff_toInt_lt, Int64.le_iff_toInt_le, ← Int64.toInt_inj, Int64.reduceToInt, Int32.toInt_toInt64, lg_cmp_ge, lg_cmp_le, lg_cmp_gt, lg_cmp_lt, lg_cmp_eq, Bool.false_eq_true, Bool.true_eq_false, reduceCtorEq, false_iff, true_iff, iff_true, iff_false, and_true, true_and, and_false, false_and, reduceIte, ite_true, ite_false, eq_self] at *)) <;> omega))) (rfl) rfl rfl (zr (by omega)) mk_X12_addRow ly_84 ml_12_1073 (Nat.le_of_ble_eq_true rfl) (fun s5 hs5 => ?_)
        obtain ⟨fs5, cx6_1, -⟩ := hs5
        rw [khi3_0] at cx6_1
        have Fs5 : Fm [104, 105] [160] σ s5 := Fm.tr Fs1 (Fm.wd fs5 rfl rfl)
        refine wa_return (st := []) rfl rfl ?_
        exact ⟨Fs5, (by first | assumption | (((try simp only [vp_in_iff, Int32.lt_iff_toInt_lt, Int32.le_iff_toInt_le, ← Int32.toInt_inj, Int32.reduceToInt, n_1, n_2, n_8, Int32.toNatClampNeg, Int64.lt_iff_toInt_lt, Int64.le_iff_toInt_le, ← Int64.toInt_inj, Int64.reduceToInt, Int32.toInt_toInt64, lg_cmp_ge, lg_cmp_le, lg_cmp_gt, lg_cmp_lt, lg_cmp_eq, Bool.false_eq_true, Bool.true_eq_false, reduceCtorEq, false_iff, true_iff, iff_true, iff_false, and_true, true_and, and_false, false_and, reduceIte, ite_true, ite_false, eq_self] at *)) <;> omega)), trivial⟩
      · have mh4 := nle_mx h4
        refine wa_aload_n (i := 0) rfl rfl ?_
        refine wa_iload_n (i := 1) rfl rfl ?_
        refine wa_Vi (d9 := d - 1) [.int _] [] (sp_X12_isRow G (d := d - 1) (by omega) s1 _ (by ((try simp only [vp_in_iff, Int32.lt_iff_toInt_lt, Int32.le_iff_toInt_le, ← Int32.toInt_inj, Int32.reduceToInt, n_1, n_2, n_8, Int32.toNatClampNeg, Int64.lt_iff_toInt_lt, Int64.le_iff_toInt_le, ← Int64.toInt_inj, Int64.reduceToInt, Int32.toInt_toInt64, lg_cmp_ge, lg_cmp_le, lg_cmp_gt, lg_cmp_lt, lg_cmp_eq, Bool.false_eq_true, Bool.true_eq_false, reduceCtorEq, false_iff, true_iff, iff_true, iff_false, and_true, true_and, and_false, false_and, reduceIte, ite_true, ite_false, eq_self] at *)) <;> omega)) (rfl) rfl rfl (zr (by omega)) mk_X12_isRow ly_84 ml_12_1070 (Nat.le_of_ble_eq_true rfl) (fun x8 s7 hs7 => ?_)
        obtain ⟨bx8, ex8, zs7, -⟩ := pB hs7
        subst ex8
        subst zs7
        refine wa_if_eq o_X12_addNewRow_19 (by decide) (fun h9 => ?_) (fun h9 => ?_)
        · replace h9 := bI_f (b := bx8) (rfl) h9
          refine wa_iinc (v := (1)) (lv' := fun y10 => [(1, .int y10), (0, .ref 84)]) (by decide) rfl (by decide) (fun _ => rfl) (fun y10 hy10 => ?_)
          have ty10 := i_addT hy10.symm
          clear hy10
          refine wa_goto o_X12_addNewRow_2 (by decide) ?_
          refine wa_pick [1, 0] rfl ?_
          exact ih2 _ (by ((try simp only [vp_in_iff, Int32.lt_iff_toInt_lt, Int32.le_iff_toInt_le, ← Int32.toInt_inj, Int32.reduceToInt, n_1, n_2, n_8, Int32.toNatClampNeg, Int64.lt_iff_toInt_lt, Int64.le_iff_toInt_le, ← Int64.toInt_inj, Int64.reduceToInt, Int32.toInt_toInt64, lg_cmp_ge, lg_cmp_le, lg_cmp_gt, lg_cmp_lt, lg_cmp_eq, Bool.false_eq_true, Bool.true_eq_false, reduceCtorEq, false_iff, true_iff, iff_true, iff_false, and_true, true_and, and_false, false_and, reduceIte, ite_true, ite_false, eq_self] at *)) <;> omega) _ _ ⟨Fs1, (khi3_0), (by ((try simp only [vp_in_iff, Int32.lt_iff_toInt_lt, Int32.le_iff_toInt_le, ← Int32.toInt_inj, Int32.reduceToInt, n_1, n_2, n_8, Int32.toNatClampNeg, Int64.lt_iff_toInt_lt, Int64.le_iff_toInt_le, ← Int64.toInt_inj, Int64.reduceToInt, Int32.toInt_toInt64, lg_cmp_ge, lg_cmp_le, lg_cmp_gt, lg_cmp_lt, lg_cmp_eq, Bool.false_eq_true, Bool.true_eq_false, reduceCtorEq, false_iff, true_iff, iff_true, iff_false, and_true, true_and, and_false, false_and, reduceIte, ite_true, ite_false, eq_self] at *)) <;> omega), trivial⟩ rfl
        · replace h9 := bI_t (b := bx8) (rfl) h9
          refine wa_return (st := []) rfl rfl ?_
          exact ⟨Fs1, (by rw [khi3_0]; first | assumption | (((try simp only [vp_in_iff, Int32.lt_iff_toInt_lt, Int32.le_iff_toInt_le, ← Int32.toInt_inj, Int32.reduceToInt, n_1, n_2, n_8, Int32.toNatClampNeg, Int64.lt_iff_toInt_lt, Int64.le_iff_toInt_le, ← Int64.toInt_inj, Int64.reduceToInt, Int32.toInt_toInt64, lg_cmp_ge, lg_cmp_le, lg_cmp_gt, lg_cmp_lt, lg_cmp_eq, Bool.false_eq_true, Bool.true_eq_false, reduceCtorEq, false_iff, true_iff, iff_true, iff_false, and_true, true_and, and_false, false_and, reduceIte, ite_true, ite_false, eq_self] at *)) <;> omega)), trivial⟩
  exact hi3 _ _ _ ⟨(Fm.rf [104, 105] [160] σ), (rfl), (by ((try simp only [vp_in_iff, Int32.lt_iff_toInt_lt, Int32.le_iff_toInt_le, ← Int32.toInt_inj, Int32.reduceToInt, n_1, n_2, n_8, Int32.toNatClampNeg, Int64.lt_iff_toInt_lt, Int64.le_iff_toInt_le, ← Int64.toInt_inj, Int64.reduceToInt, Int32.toInt_toInt64, lg_cmp_ge, lg_cmp_le, lg_cmp_gt, lg_cmp_lt, lg_cmp_eq, Bool.false_eq_true, Bool.true_eq_false, reduceCtorEq, false_iff, true_iff, iff_true, iff_false, and_true, true_and, and_false, false_and, reduceIte, ite_true, ite_false, eq_self] at *)) <;> omega), trivial⟩ rfl
set_option maxHeartbeats 4000000 in
theorem sp_X12_isAllPlain (G : kG9) {d : Nat} (hd : 0 ≤ d) (σ : St) (r1 : 0 ≤ (gi σ 84 33).toInt ∧ (gi σ 84 33).toInt ≤ 24) : Ct G M_X12_isAllPlain d [.ref 84] σ (fun r σ' => ∃ x : Bool, r = some (.int (bI x)) ∧ σ = σ' ∧ True) := by
  refine wa_start (by decide) rfl (Nat.le_of_ble_eq_true rfl) (lv := [(0, .ref 84)]) rfl o_X12_isAllPlain_0 rfl ?_
  refine wa_iconst (v := 1) (by decide) ?_
  refine wa_istore_nD (lv' := [(1, .int (bI true)), (0, .ref 84)]) (i := 1) rfl (by decide) rfl ?_
  refine wa_iconst (v := 0) (by decide) ?_
  refine wa_istore_nD (lv' := [(2, .int 0), (1, .int (bI true)), (0, .ref 84)]) (i := 2) rfl (by decide) rfl ?_
  refine wa_pick [2, 1, 0] rfl ?_
  have hi2 : ∀ (n9_4 : Nat) (l1 : Bool) (l2 : Int32), ((0 ≤ l2.toInt) ∧ (True)) → (2147483647 - l2.toInt).toNat = n9_4 → WA G M_X12_isAllPlain (ZM G M_X12_isAllPlain d (fun r σ' => ∃ x : Bool, r = some (.int (bI x)) ∧ σ = σ' ∧ True)) B_X12_isAllPlain_4 [(0, .ref 84), (1, .int (bI l1)), (2, .int l2)] [] σ := by
    intro n9_4
    induction n9_4 using Nat.strongRecOn with
    | _ n9_4 ih1 =>
      intro l1 l2  i9 m9_4
      obtain ⟨jhi2_0, -⟩ := i9
      have ul2 := Int32.toInt_lt l2
      have wl2 := Int32.le_toInt l2
      refine wa_iload_n (i := 2) rfl rfl ?_
      refine wa_aload_n (i := 0) rfl rfl ?_
      refine wa_geti ck_12 fl_12_818 ly_84 ?_
      refine wa_icmp_ge o_X12_isAllPlain_46 (by decide) (fun h3 => ?_) (fun h3 => ?_)
      · refine wa_iload_n (i := 1) rfl rfl ?_
        refine wa_zreturn l1 (rfl) rfl rfl ?_
        exact ⟨_, rfl, rfl, trivial⟩
      · have mh3 := nle_mx h3
        refine wa_iload_n (i := 1) rfl rfl ?_
        refine wa_if_eq o_X12_isAllPlain_38 (by decide) (fun h4 => ?_) (fun h4 => ?_)
        · replace h4 := bI_f (b := l1) (rfl) h4
          refine wa_iconst (v := 0) (by decide) ?_
          refine wa_istore_nD (lv' := [(1, .int (bI false)), (0, .ref 84), (2, .int l2)]) (i := 1) rfl (by decide) rfl ?_
          refine wa_iinc (v := (1)) (lv' := fun y5 => [(2, .int y5), (1, .int (bI false)), (0, .ref 84)]) (by decide) rfl (by decide) (fun _ => rfl) (fun y5 hy5 => ?_)
          have ty5 := i_addT hy5.symm
          clear hy5
          refine wa_goto o_X12_isAllPlain_4 (by decide) ?_
          refine wa_pick [2, 1, 0] rfl ?_
          exact ih1 _ (by ((try simp only [vp_in_iff, Int32.lt_iff_toInt_lt, Int32.le_iff_toInt_le, ← Int32.toInt_inj, Int32.reduceToInt, n_1, n_2, n_8, Int32.toNatClampNeg, Int64.lt_iff_toInt_lt, Int64.le_iff_toInt_le, ← Int64.toInt_inj, Int64.reduceToInt, Int32.toInt_toInt64, lg_cmp_ge, lg_cmp_le, lg_cmp_gt, lg_cmp_lt, lg_cmp_eq, Bool.false_eq_true, Bool.true_eq_false, reduceCtorEq, false_iff, true_iff, iff_true, iff_false, and_true, true_and, and_false, false_and, reduceIte, ite_true, ite_false, eq_self] at *)) <;> omega) _ _ ⟨(by ((try simp only [vp_in_iff, Int32.lt_iff_toInt_lt, Int32.le_iff_toInt_le, ← Int32.toInt_inj, Int32.reduceToInt, n_1, n_2, n_8, Int32.toNatClampNeg, Int64.lt_iff_toInt_lt, Int64.le_iff_toInt_le, ← Int64.toInt_inj, Int64.reduceToInt, Int32.toInt_toInt64, lg_cmp_ge, lg_cmp_le, lg_cmp_gt, lg_cmp_lt, lg_cmp_eq, Bool.false_eq_true, Bool.true_eq_false, reduceCtorEq, false_iff, true_iff, iff_true, iff_false, and_true, true_and, and_false, false_and, reduceIte, ite_true, ite_false, eq_self] at *)) <;> omega), trivial⟩ rfl
        · replace h4 := bI_t (b := l1) (rfl) h4
          refine wa_aload_n (i := 0) rfl rfl ?_
          refine wa_getr ck_12 fl_12_265 ly_84 rf_84_103 ?_
          refine wa_iload_n (i := 2) rfl rfl ?_
          refine wa_zald ly_146 (by ((try simp only [vp_in_iff, Int32.lt_iff_toInt_lt, Int32.le_iff_toInt_le, ← Int32.toInt_inj, Int32.reduceToInt, n_1, n_2, n_8, Int32.toNatClampNeg, Int64.lt_iff_toInt_lt, Int64.le_iff_toInt_le, ← Int64.toInt_inj, Int64.reduceToInt, Int32.toInt_toInt64, lg_cmp_ge, lg_cmp_le, lg_cmp_gt, lg_cmp_lt, lg_cmp_eq, Bool.false_eq_true, Bool.true_eq_false, reduceCtorEq, false_iff, true_iff, iff_true, iff_false, and_true, true_and, and_false, false_and, reduceIte, ite_true, ite_false, eq_self] at *)) <;> omega) ?_
          refine wa_if_eq o_X12_isAllPlain_34 (by decide) (fun h6 => ?_) (fun h6 => ?_)
          · replace h6 := bI_f (b := (gb σ 146 (l2).toNatClampNeg)) (rfl) h6
            refine wa_iconst (v := 1) (by decide) ?_
            refine wa_goto o_X12_isAllPlain_39 (by decide) ?_
            refine wa_istore_nD (lv' := [(1, .int (bI true)), (0, .ref 84), (2, .int l2)]) (i := 1) rfl (by decide) rfl ?_
            refine wa_iinc (v := (1)) (lv' := fun y7 => [(2, .int y7), (1, .int (bI true)), (0, .ref 84)]) (by decide) rfl (by decide) (fun _ => rfl) (fun y7 hy7 => ?_)
            have ty7 := i_addT hy7.symm
            clear hy7
            refine wa_goto o_X12_isAllPlain_4 (by decide) ?_
            refine wa_pick [2, 1, 0] rfl ?_
            exact ih1 _ (by ((try simp only [vp_in_iff, Int32.lt_iff_toInt_lt, Int32.le_iff_toInt_le, ← Int32.toInt_inj, Int32.reduceToInt, n_1, n_2, n_8, Int32.toNatClampNeg, Int64.lt_iff_toInt_lt, Int64.le_iff_toInt_le, ← Int64.toInt_inj, Int64.reduceToInt, Int32.toInt_toInt64, lg_cmp_ge, lg_cmp_le, lg_cmp_gt, lg_cmp_lt, lg_cmp_eq, Bool.false_eq_true, Bool.true_eq_false, reduceCtorEq, false_iff, true_iff, iff_true, iff_false, and_true, true_and, and_false, false_and, reduceIte, ite_true, ite_false, eq_self] at *)) <;> omega) _ _ ⟨(by ((try simp only [vp_in_iff, Int32.lt_iff_toInt_lt, Int32.le_iff_toInt_le, ← Int32.toInt_inj, Int32.reduceToInt, n_1, n_2, n_8, Int32.toNatClampNeg, Int64.lt_iff_toInt_lt, Int64.le_iff_toInt_le, ← Int64.toInt_inj, Int64.reduceToInt, Int32.toInt_toInt64, lg_cmp_ge, lg_cmp_le, lg_cmp_gt, lg_cmp_lt, lg_cmp_eq, Bool.false_eq_true, Bool.true_eq_false, reduceCtorEq, false_iff, true_iff, iff_true, iff_false, and_true, true_and, and_false, false_and, reduceIte, ite_true, ite_false, eq_self] at *)) <;> omega), trivial⟩ rfl
          · replace h6 := bI_t (b := (gb σ 146 (l2).toNatClampNeg)) (rfl) h6
            refine wa_aload_n (i := 0) rfl rfl ?_
            refine wa_getr ck_12 fl_12_244 ly_84 rf_84_92 ?_
            refine wa_iload_n (i := 2) rfl rfl ?_
            refine wa_zald ly_153 (by ((try simp only [vp_in_iff, Int32.lt_iff_toInt_lt, Int32.le_iff_toInt_le, ← Int32.toInt_inj, Int32.reduceToInt, n_1, n_2, n_8, Int32.toNatClampNeg, Int64.lt_iff_toInt_lt, Int64.le_iff_toInt_le, ← Int64.toInt_inj, Int64.reduceToInt, Int32.toInt_toInt64, lg_cmp_ge, lg_cmp_le, lg_cmp_gt, lg_cmp_lt, lg_cmp_eq, Bool.false_eq_true, Bool.true_eq_false, reduceCtorEq, false_iff, true_iff, iff_true, iff_false, and_true, true_and, and_false, false_and, reduceIte, ite_true, ite_false, eq_self] at *)) <;> omega) ?_
            refine wa_if_eq o_X12_isAllPlain_38 (by decide) (fun h8 => ?_) (fun h8 => ?_)
            · replace h8 := bI_f (b := (gb σ 153 (l2).toNatClampNeg)) (rfl) h8
              refine wa_iconst (v := 0) (by decide) ?_
              refine wa_istore_nD (lv' := [(1, .int (bI false)), (0, .ref 84), (2, .int l2)]) (i := 1) rfl (by decide) rfl ?_
              refine wa_iinc (v := (1)) (lv' := fun y9 => [(2, .int y9), (1, .int (bI false)), (0, .ref 84)]) (by decide) rfl (by decide) (fun _ => rfl) (fun y9 hy9 => ?_)
              have ty9 := i_addT hy9.symm
              clear hy9
              refine wa_goto o_X12_isAllPlain_4 (by decide) ?_
              refine wa_pick [2, 1, 0] rfl ?_
              exact ih1 _ (by ((try simp only [vp_in_iff, Int32.lt_iff_toInt_lt, Int32.le_iff_toInt_le, ← Int32.toInt_inj, Int32.reduceToInt, n_1, n_2, n_8, Int32.toNatClampNeg, Int64.lt_iff_toInt_lt, Int64.le_iff_toInt_le, ← Int64.toInt_inj, Int64.reduceToInt, Int32.toInt_toInt64, lg_cmp_ge, lg_cmp_le, lg_cmp_gt, lg_cmp_lt, lg_cmp_eq, Bool.false_eq_true, Bool.true_eq_false, reduceCtorEq, false_iff, true_iff, iff_true, iff_false, and_true, true_and, and_false, false_and, reduceIte, ite_true, ite_false, eq_self] at *)) <;> omega) _ _ ⟨(by ((try simp only [vp_in_iff, Int32.lt_iff_toInt_lt, Int32.le_iff_toInt_le, ← Int32.toInt_inj, Int32.reduceToInt, n_1, n_2, n_8, Int32.toNatClampNeg, Int64.lt_iff_toInt_lt, Int64.le_iff_toInt_le, ← Int64.toInt_inj, Int64.reduceToInt, Int32.toInt_toInt64, lg_cmp_ge, lg_cmp_le, lg_cmp_gt, lg_cmp_lt, lg_cmp_eq, Bool.false_eq_true, Bool.true_eq_false, reduceCtorEq, false_iff, true_iff, iff_true, iff_false, and_true, true_and, and_false, false_and, reduceIte, ite_true, ite_false, eq_self] at *)) <;> omega), trivial⟩ rfl
            · replace h8 := bI_t (b := (gb σ 153 (l2).toNatClampNeg)) (rfl) h8
              refine wa_iconst (v := 1) (by decide) ?_
              refine wa_goto o_X12_isAllPlain_39 (by decide) ?_
              refine wa_istore_nD (lv' := [(1, .int (bI true)), (0, .ref 84), (2, .int l2)]) (i := 1) rfl (by decide) rfl ?_
              refine wa_iinc (v := (1)) (lv' := fun y10 => [(2, .int y10), (1, .int (bI true)), (0, .ref 84)]) (by decide) rfl (by decide) (fun _ => rfl) (fun y10 hy10 => ?_)
              have ty10 := i_addT hy10.symm
              clear hy10
              refine wa_goto o_X12_isAllPlain_4 (by decide) ?_
              refine wa_pick [2, 1, 0] rfl ?_
              exact ih1 _ (by ((try simp only [vp_in_iff, Int32.lt_iff_toInt_lt, Int32.le_iff_toInt_le, ← Int32.toInt_inj, Int32.reduceToInt, n_1, n_2, n_8, Int32.toNatClampNeg, Int64.lt_iff_toInt_lt, Int64.le_iff_toInt_le, ← Int64.toInt_inj, Int64.reduceToInt, Int32.toInt_toInt64, lg_cmp_ge, lg_cmp_le, lg_cmp_gt, lg_cmp_lt, lg_cmp_eq, Bool.false_eq_true, Bool.true_eq_false, reduceCtorEq, false_iff, true_iff, iff_true, iff_false, and_true, true_and, and_false, false_and, reduceIte, ite_true, ite_false, eq_self] at *)) <;> omega) _ _ ⟨(by ((try simp only [vp_in_iff, Int32.lt_iff_toInt_lt, Int32.le_iff_toInt_le, ← Int32.toInt_inj, Int32.reduceToInt, n_1, n_2, n_8, Int32.toNatClampNeg, Int64.lt_iff_toInt_lt, Int64.le_iff_toInt_le, ← Int64.toInt_inj, Int64.reduceToInt, Int32.toInt_toInt64, lg_cmp_ge, lg_cmp_le, lg_cmp_gt, lg_cmp_lt, lg_cmp_eq, Bool.false_eq_true, Bool.true_eq_false, reduceCtorEq, false_iff, true_iff, iff_true, iff_false, and_true, true_and, and_false, false_and, reduceIte, ite_true, ite_false, eq_self] at *)) <;> omega), trivial⟩ rfl
  exact hi2 _ _ _ ⟨(by ((try simp only [vp_in_iff, Int32.lt_iff_toInt_lt, Int32.le_iff_toInt_le, ← Int32.toInt_inj, Int32.reduceToInt, n_1, n_2, n_8, Int32.toNatClampNeg, Int64.lt_iff_toInt_lt, Int64.le_iff_toInt_le, ← Int64.toInt_inj, Int64.reduceToInt, Int32.toInt_toInt64, lg_cmp_ge, lg_cmp_le, lg_cmp_gt, lg_cmp_lt, lg_cmp_eq, Bool.false_eq_true, Bool.true_eq_false, reduceCtorEq, false_iff, true_iff, iff_true, iff_false, and_true, true_and, and_false, false_and, reduceIte, ite_true, ite_false, eq_self] at *)) <;> omega), trivial⟩ rfl
set_option maxHeartbeats 4000000 in
theorem sp_X12_clearHere (G : kG9) {d : Nat} (hd : 0 ≤ d) (σ : St) (a0 : Int64) : Ct G M_X12_clearHere d [.ref 84, .long a0] σ (fun r σ' => Fm [147] [101, 102] σ σ' ∧ True) := by
  refine wa_start (by decide) rfl (Nat.le_of_ble_eq_true rfl) (lv := [(0, .ref 84), (1, .long a0)]) rfl o_X12_clearHere_0 rfl ?_
  refine wa_iconst (v := 0) (by decide) ?_
  refine wa_istore_nD (lv' := [(3, .int 0), (0, .ref 84), (1, .long a0)]) (i := 3) rfl (by decide) rfl ?_
  refine wa_pick [1, 2, 0] rfl ?_
  have hi3 : ∀ (n9_2 : Nat) (l3 : Int32) (s1 : St), ((Fm [147] [101, 102] σ s1) ∧ (gl s1 84 101 = gl σ 84 101) ∧ (gl s1 84 102 = gl σ 84 102) ∧ (0 ≤ l3.toInt) ∧ (True)) → (2147483647 - l3.toInt).toNat = n9_2 → WA G M_X12_clearHere (ZM G M_X12_clearHere d (fun r σ' => Fm [147] [101, 102] σ σ' ∧ True)) B_X12_clearHere_2 [(0, .ref 84), (1, .long a0), (3, .int l3)] [] s1 := by
    intro n9_2
    induction n9_2 using Nat.strongRecOn with
    | _ n9_2 ih2 =>
      intro l3 s1 i9 m9_2
      obtain ⟨Fs1, khi3_0, khi3_1, jhi3_0, -⟩ := i9
      have ul3 := Int32.toInt_lt l3
      have wl3 := Int32.le_toInt l3
      refine wa_iload_n (i := 3) rfl rfl ?_
      refine wa_iconst (v := 4) (by decide) ?_
      refine wa_icmp_ge o_X12_clearHere_20 (by decide) (fun h4 => ?_) (fun h4 => ?_)
      · refine wa_aload_n (i := 0) rfl rfl ?_
        refine wa_lload_n (i := 1) rfl rfl ?_
        refine wa_putl ck_12 fl_12_736 ly_84 (fun s5 hs5 => ?_)
        have Fs5 : Fm [147] [101, 102] σ s5 := by rw [hs5]; exact Fm.sl Fs1 rfl
        refine wa_aload_n (i := 0) rfl rfl ?_
        refine wa_lconst (v := 1) (by decide) ?_
        refine wa_putl ck_12 fl_12_740 ly_84 (fun s6 hs6 => ?_)
        have Fs6 : Fm [147] [101, 102] σ s6 := by rw [hs6]; exact Fm.sl Fs5 rfl
        refine wa_return (st := []) rfl rfl ?_
        exact ⟨Fs6, trivial⟩
      · have mh4 := nle_mx h4
        refine wa_aload_n (i := 0) rfl rfl ?_
        refine wa_getr ck_12 fl_12_262 ly_84 rf_84_100 ?_
        refine wa_iload_n (i := 3) rfl rfl ?_
        refine wa_lconst (v := 0) (by decide) ?_
        refine wa_last ly_147 (by ((try simp only [vp_in_iff, Int32.lt_iff_toInt_lt, Int32.le_iff_toInt_le, ← Int32.toInt_inj, Int32.reduceToInt, n_1, n_2, n_8, Int32.toNatClampNeg, Int64.lt_iff_toInt_lt, Int64.le_iff_toInt_le, ← Int64.toInt_inj, Int64.reduceToInt, Int32.toInt_toInt64, lg_cmp_ge, lg_cmp_le, lg_cmp_gt, lg_cmp_lt, lg_cmp_eq, Bool.false_eq_true, Bool.true_eq_false, reduceCtorEq, false_iff, true_iff, iff_true, iff_false, and_true, true_and, and_false, false_and, reduceIte, ite_true, ite_false, eq_self] at *)) <;> omega) (fun s7 hs7 => ?_)
        have Fs7 : Fm [147] [101, 102] σ s7 := by rw [hs7]; exact Fm.sl Fs1 rfl
        refine wa_iinc (v := (1)) (lv' := fun y8 => [(3, .int y8), (0, .ref 84), (1, .long a0)]) (by decide) rfl (by decide) (fun _ => rfl) (fun y8 hy8 => ?_)
        have ty8 := i_addT hy8.symm
        clear hy8
        refine wa_goto o_X12_clearHere_2 (by decide) ?_
        refine wa_pick [1, 2, 0] rfl ?_
        exact ih2 _ (by ((try simp only [vp_in_iff, Int32.lt_iff_toInt_lt, Int32.le_iff_toInt_le, ← Int32.toInt_inj, Int32.reduceToInt, n_1, n_2, n_8, Int32.toNatClampNeg, Int64.lt_iff_toInt_lt, Int64.le_iff_toInt_le, ← Int64.toInt_inj, Int64.reduceToInt, Int32.toInt_toInt64, lg_cmp_ge, lg_cmp_le, lg_cmp_gt, lg_cmp_lt, lg_cmp_eq, Bool.false_eq_true, Bool.true_eq_false, reduceCtorEq, false_iff, true_iff, iff_true, iff_false, and_true, true_and, and_false, false_and, reduceIte, ite_true, ite_false, eq_self] at *)) <;> omega) _ _ ⟨Fs7, ((nxq_gl_sl hs7 (by decide)).trans (khi3_0)), ((nxq_gl_sl hs7 (by decide)).trans (khi3_1)), (by ((try simp only [vp_in_iff, Int32.lt_iff_toInt_lt, Int32.le_iff_toInt_le, ← Int32.toInt_inj, Int32.reduceToInt, n_1, n_2, n_8, Int32.toNatClampNeg, Int64.lt_iff_toInt_lt, Int64.le_iff_toInt_le, ← Int64.toInt_inj, Int64.reduceToInt, Int32.toInt_toInt64, lg_cmp_ge, lg_cmp_le, lg_cmp_gt, lg_cmp_lt, lg_cmp_eq, Bool.false_eq_true, Bool.true_eq_false, reduceCtorEq, false_iff, true_iff, iff_true, iff_false, and_true, true_and, and_false, false_and, reduceIte, ite_true, ite_false, eq_self] at *)) <;> omega), trivial⟩ rfl
  exact hi3 _ _ _ ⟨(Fm.rf [147] [101, 102] σ), (rfl), (rfl), (by ((try simp only [vp_in_iff, Int32.lt_iff_toInt_lt, Int32.le_iff_toInt_le, ← Int32.toInt_inj, Int32.reduceToInt, n_1, n_2, n_8, Int32.toNatClampNeg, Int64.lt_iff_toInt_lt, Int64.le_iff_toInt_le, ← Int64.toInt_inj, Int64.reduceToInt, Int32.toInt_toInt64, lg_cmp_ge, lg_cmp_le, lg_cmp_gt, lg_cmp_lt, lg_cmp_eq, Bool.false_eq_true, Bool.true_eq_false, reduceCtorEq, false_iff, true_iff, iff_true, iff_false, and_true, true_and, and_false, false_and, reduceIte, ite_true, ite_false, eq_self] at *)) <;> omega), trivial⟩ rfl
set_option maxHeartbeats 4000000 in
theorem sp_X12_collectRows (G : kG9) {d : Nat} (hd : 2 ≤ d) (σ : St) (r1 : 0 ≤ (gi σ 84 33).toInt ∧ (gi σ 84 33).toInt ≤ 24) (A_156 : AR ap_156 σ 156) (A_158 : AR ap_158 σ 158) (A_159 : AR ap_159 σ 159) : Ct G M_X12_collectRows d [.ref 84] σ (fun r σ' => Fm [104, 105, 147] [101, 102, 160] σ σ' ∧ (0 ≤ (gi σ' 84 160).toInt ∧ (gi σ' 84 160).toInt ≤ 600) ∧ True) := by
  refine wa_start (by decide) rfl (Nat.le_of_ble_eq_true rfl) (lv := [(0, .ref 84)]) rfl o_X12_collectRows_0 rfl ?_
  refine wa_aload_n (i := 0) rfl rfl ?_
  refine wa_iconst (v := 0) (by decide) ?_
  refine wa_puti ck_12 fl_12_1067 ly_84 (fun s1 hs1 => ?_)
  have Fs1 : Fm [104, 105, 147] [101, 102, 160] σ s1 := by rw [hs1]; exact Fm.si (Fm.rf [104, 105, 147] [101, 102, 160] σ) rfl
  refine wa_iconst (v := 0) (by decide) ?_
  refine wa_istore_nD (lv' := [(1, .int 0), (0, .ref 84)]) (i := 1) rfl (by decide) rfl ?_
  refine wa_pick [1, 0] rfl ?_
  have hi4 : ∀ (n9_7 : Nat) (l1 : Int32) (s2 : St), ((Fm [104, 105, 147] [101, 102, 160] σ s2) ∧ (gi s2 84 33 = gi σ 84 33) ∧ (0 ≤ l1.toInt) ∧ (0 ≤ (gi s2 84 160).toInt) ∧ ((gi s2 84 160).toInt ≤ 25 * l1.toInt) ∧ (True)) → (2147483647 - l1.toInt).toNat = n9_7 → WA G M_X12_collectRows (ZM G M_X12_collectRows d (fun r σ' => Fm [104, 105, 147] [101, 102, 160] σ σ' ∧ (0 ≤ (gi σ' 84 160).toInt ∧ (gi σ' 84 160).toInt ≤ 600) ∧ True)) B_X12_collectRows_7 [(0, .ref 84), (1, .int l1)] [] s2 := by
    intro n9_7
    induction n9_7 using Nat.strongRecOn with
    | _ n9_7 ih3 =>
      intro l1 s2 i9 m9_7
      obtain ⟨Fs2, khi4_0, jhi4_0, jhi4_1, jhi4_2, -⟩ := i9
      have ul1 := Int32.toInt_lt l1
      have wl1 := Int32.le_toInt l1
      refine wa_iload_n (i := 1) rfl rfl ?_
      refine wa_aload_n (i := 0) rfl rfl ?_
      refine wa_geti ck_12 fl_12_818 ly_84 ?_
      refine wa_rw (khi4_0) ?_
      refine wa_icmp_ge o_X12_collectRows_135 (by decide) (fun h5 => ?_) (fun h5 => ?_)
      · refine wa_return (st := []) rfl rfl ?_
        exact ⟨Fs2, (by first | assumption | (((try simp only [vp_in_iff, Int32.lt_iff_toInt_lt, Int32.le_iff_toInt_le, ← Int32.toInt_inj, Int32.reduceToInt, n_1, n_2, n_8, Int32.toNatClampNeg, Int64.lt_iff_toInt_lt, Int64.le_iff_toInt_le, ← Int64.toInt_inj, Int64.reduceToInt, Int32.toInt_toInt64, lg_cmp_ge, lg_cmp_le, lg_cmp_gt, lg_cmp_lt, lg_cmp_eq, Bool.false_eq_true, Bool.true_eq_false, reduceCtorEq, false_iff, true_iff, iff_true, iff_false, and_true, true_and, and_false, false_and, reduceIte, ite_true, ite_false, eq_self] at *)) <;> omega)), trivial⟩
      · have mh5 := nle_mx h5
        refine wa_iconst (v := 0) (by decide) ?_
        refine wa_istore_nD (lv' := [(2, .int 0), (0, .ref 84), (1, .int l1)]) (i := 2) rfl (by decide) rfl ?_
        refine wa_pick [1, 2, 0] rfl ?_
        have hi8 : ∀ (n9_17 : Nat) (l2 : Int32) (s6 : St), ((Fm [104, 105, 147] [101, 102, 160] σ s6) ∧ (gi s6 84 33 = gi σ 84 33) ∧ (0 ≤ (gi s6 84 160).toInt) ∧ (0 ≤ l2.toInt ∧ l2.toInt ≤ 25) ∧ ((gi s6 84 160).toInt ≤ 25 * l1.toInt + l2.toInt ∨ ((gi s6 84 160).toInt ≤ 25 * l1.toInt + l2.toInt + 1 ∧ (gi σ 152 (l1).toNatClampNeg).toInt < l2.toInt)) ∧ (l2.toInt ≤ (gi σ 156 (l1).toNatClampNeg).toInt ∨ (gi s6 84 160).toInt ≤ 25 * l1.toInt + (gi σ 156 (l1).toNatClampNeg).toInt + 1) ∧ (True)) → (26 - l2.toInt).toNat = n9_17 → WA G M_X12_collectRows (ZM G M_X12_collectRows d (fun r σ' => Fm [104, 105, 147] [101, 102, 160] σ σ' ∧ (0 ≤ (gi σ' 84 160).toInt ∧ (gi σ' 84 160).toInt ≤ 600) ∧ True)) B_X12_collectRows_17 [(0, .ref 84), (1, .int l1), (2, .int l2)] [] s6 := by
          intro n9_17
          induction n9_17 using Nat.strongRecOn with
          | _ n9_17 ih7 =>
            intro l2 s6 i9 m9_17
            obtain ⟨Fs6, khi8_0, jhi8_0, jhi8_1, jhi8_2, jhi8_3, -⟩ := i9
            have ul2 := Int32.toInt_lt l2
            have wl2 := Int32.le_toInt l2
            refine wa_aload_n (i := 0) rfl rfl ?_
            refine wa_getr ck_12 fl_12_265 ly_84 rf_84_103 ?_
            refine wa_iload_n (i := 1) rfl rfl ?_
            refine wa_zald ly_146 (by ((try simp only [vp_in_iff, Int32.lt_iff_toInt_lt, Int32.le_iff_toInt_le, ← Int32.toInt_inj, Int32.reduceToInt, n_1, n_2, n_8, Int32.toNatClampNeg, Int64.lt_iff_toInt_lt, Int64.le_iff_toInt_le, ← Int64.toInt_inj, Int64.reduceToInt, Int32.toInt_toInt64, lg_cmp_ge, lg_cmp_le, lg_cmp_gt, lg_cmp_lt, lg_cmp_eq, Bool.false_eq_true, Bool.true_eq_false, reduceCtorEq, false_iff, true_iff, iff_true, iff_false, and_true, true_and, and_false, false_and, reduceIte, ite_true, ite_false, eq_self] at *)) <;> omega) ?_
            refine wa_if_eq o_X12_collectRows_129 (by decide) (fun h9 => ?_) (fun h9 => ?_)
            · replace h9 := bI_f (b := (gb s6 146 (l1).toNatClampNeg)) (rfl) h9
              refine wa_iinc (v := (1)) (lv' := fun y10 => [(1, .int y10), (0, .ref 84), (2, .int l2)]) (by decide) rfl (by decide) (fun _ => rfl) (fun y10 hy10 => ?_)
              have ty10 := i_addT hy10.symm
              clear hy10
              refine wa_goto o_X12_collectRows_7 (by decide) ?_
              refine wa_pick [1, 0] rfl ?_
              exact ih3 _ (by ((try simp only [vp_in_iff, Int32.lt_iff_toInt_lt, Int32.le_iff_toInt_le, ← Int32.toInt_inj, Int32.reduceToInt, n_1, n_2, n_8, Int32.toNatClampNeg, Int64.lt_iff_toInt_lt, Int64.le_iff_toInt_le, ← Int64.toInt_inj, Int64.reduceToInt, Int32.toInt_toInt64, lg_cmp_ge, lg_cmp_le, lg_cmp_gt, lg_cmp_lt, lg_cmp_eq, Bool.false_eq_true, Bool.true_eq_false, reduceCtorEq, false_iff, true_iff, iff_true, iff_false, and_true, true_and, and_false, false_and, reduceIte, ite_true, ite_false, eq_self] at *)) <;> omega) _ _ ⟨Fs6, (khi8_0), (by ((try simp only [vp_in_iff, Int32.lt_iff_toInt_lt, Int32.le_iff_toInt_le, ← Int32.toInt_inj, Int32.reduceToInt, n_1, n_2, n_8, Int32.toNatClampNeg, Int64.lt_iff_toInt_lt, Int64.le_iff_toInt_le, ← Int64.toInt_inj, Int64.reduceToInt, Int32.toInt_toInt64, lg_cmp_ge, lg_cmp_le, lg_cmp_gt, lg_cmp_lt, lg_cmp_eq, Bool.false_eq_true, Bool.true_eq_false, reduceCtorEq, false_iff, true_iff, iff_true, iff_false, and_true, true_and, and_false, false_and, reduceIte, ite_true, ite_false, eq_self] at *)) <;> omega), (by first | assumption | (((try simp only [vp_in_iff, Int32.lt_iff_toInt_lt, Int32.le_iff_toInt_le, ← Int32.toInt_inj, Int32.reduceToInt, n_1, n_2, n_8, Int32.toNatClampNeg, Int64.lt_iff_toInt_lt, Int64.le_iff_toInt_le, ← Int64.toInt_inj, Int64.reduceToInt, Int32.toInt_toInt64, lg_cmp_ge, lg_cmp_le, lg_cmp_gt, lg_cmp_lt, lg_cmp_eq, Bool.false_eq_true, Bool.true_eq_false, reduceCtorEq, false_iff, true_iff, iff_true, iff_false, and_true, true_and, and_false, false_and, reduceIte, ite_true, ite_false, eq_self] at *)) <;> omega)), (by first | assumption | (((try simp only [vp_in_iff, Int32.lt_iff_toInt_lt, Int32.le_iff_toInt_le, ← Int32.toInt_inj, Int32.reduceToInt, n_1, n_2, n_8, Int32.toNatClampNeg, Int64.lt_iff_toInt_lt, Int64.le_iff_toInt_le, ← Int64.toInt_inj, Int64.reduceToInt, Int32.toInt_toInt64, lg_cmp_ge, lg_cmp_le, lg_cmp_gt, lg_cmp_lt, lg_cmp_eq, Bool.false_eq_true, Bool.true_eq_false, reduceCtorEq, false_iff, true_iff, iff_true, iff_false, and_true, true_and, and_false, false_and, reduceIte, ite_true, ite_false, eq_self] at *)) <;> omega)), trivial⟩ rfl
            · replace h9 := bI_t (b := (gb s6 146 (l1).toNatClampNeg)) (rfl) h9
              refine wa_iload_n (i := 2) rfl rfl ?_
              refine wa_aload_n (i := 0) rfl rfl ?_
              refine wa_getr ck_12 fl_12_235 ly_84 rf_84_89 ?_
              refine wa_iload_n (i := 1) rfl rfl ?_
              refine wa_iald ly_156 (by ((try simp only [vp_in_iff, Int32.lt_iff_toInt_lt, Int32.le_iff_toInt_le, ← Int32.toInt_inj, Int32.reduceToInt, n_1, n_2, n_8, Int32.toNatClampNeg, Int64.lt_iff_toInt_lt, Int64.le_iff_toInt_le, ← Int64.toInt_inj, Int64.reduceToInt, Int32.toInt_toInt64, lg_cmp_ge, lg_cmp_le, lg_cmp_gt, lg_cmp_lt, lg_cmp_eq, Bool.false_eq_true, Bool.true_eq_false, reduceCtorEq, false_iff, true_iff, iff_true, iff_false, and_true, true_and, and_false, false_and, reduceIte, ite_true, ite_false, eq_self] at *)) <;> omega) ?_
              refine wa_top (fun v11 hv11 => ?_)
              have rv11 : 0 ≤ v11.toInt ∧ v11.toInt ≤ 24 := by rw [← hv11]; exact ar_at (ar_fm Fs6 rfl rfl A_156) _
              have qv11 := hv11
              clear hv11
              refine wa_icmp_gt o_X12_collectRows_129 (by decide) (fun h12 => ?_) (fun h12 => ?_)
              · refine wa_iinc (v := (1)) (lv' := fun y13 => [(1, .int y13), (0, .ref 84), (2, .int l2)]) (by decide) rfl (by decide) (fun _ => rfl) (fun y13 hy13 => ?_)
                have ty13 := i_addT hy13.symm
                clear hy13
                refine wa_goto o_X12_collectRows_7 (by decide) ?_
                refine wa_pick [1, 0] rfl ?_
                exact ih3 _ (by ((try simp only [vp_in_iff, Int32.lt_iff_toInt_lt, Int32.le_iff_toInt_le, ← Int32.toInt_inj, Int32.reduceToInt, n_1, n_2, n_8, Int32.toNatClampNeg, Int64.lt_iff_toInt_lt, Int64.le_iff_toInt_le, ← Int64.toInt_inj, Int64.reduceToInt, Int32.toInt_toInt64, lg_cmp_ge, lg_cmp_le, lg_cmp_gt, lg_cmp_lt, lg_cmp_eq, Bool.false_eq_true, Bool.true_eq_false, reduceCtorEq, false_iff, true_iff, iff_true, iff_false, and_true, true_and, and_false, false_and, reduceIte, ite_true, ite_false, eq_self] at *)) <;> omega) _ _ ⟨Fs6, (khi8_0), (by ((try simp only [vp_in_iff, Int32.lt_iff_toInt_lt, Int32.le_iff_toInt_le, ← Int32.toInt_inj, Int32.reduceToInt, n_1, n_2, n_8, Int32.toNatClampNeg, Int64.lt_iff_toInt_lt, Int64.le_iff_toInt_le, ← Int64.toInt_inj, Int64.reduceToInt, Int32.toInt_toInt64, lg_cmp_ge, lg_cmp_le, lg_cmp_gt, lg_cmp_lt, lg_cmp_eq, Bool.false_eq_true, Bool.true_eq_false, reduceCtorEq, false_iff, true_iff, iff_true, iff_false, and_true, true_and, and_false, false_and, reduceIte, ite_true, ite_false, eq_self] at *)) <;> omega), (by first | assumption | (((try simp only [vp_in_iff, Int32.lt_iff_toInt_lt, Int32.le_iff_toInt_le, ← Int32.toInt_inj, Int32.reduceToInt, n_1, n_2, n_8, Int32.toNatClampNeg, Int64.lt_iff_toInt_lt, Int64.le_iff_toInt_le, ← Int64.toInt_inj, Int64.reduceToInt, Int32.toInt_toInt64, lg_cmp_ge, lg_cmp_le, lg_cmp_gt, lg_cmp_lt, lg_cmp_eq, Bool.false_eq_true, Bool.true_eq_false, reduceCtorEq, false_iff, true_iff, iff_true, iff_false, and_true, true_and, and_false, false_and, reduceIte, ite_true, ite_false, eq_self] at *)) <;> omega)), (by first | assumption | (((try simp only [vp_in_iff, Int32.lt_iff_toInt_lt, Int32.le_iff_toInt_le, ← Int32.toInt_inj, Int32.reduceToInt, n_1, n_2, n_8, Int32.toNatClampNeg, Int64.lt_iff_toInt_lt, Int64.le_iff_toInt_le, ← Int64.toInt_inj, Int64.reduceToInt, Int32.toInt_toInt64, lg_cmp_ge, lg_cmp_le, lg_cmp_gt, lg_cmp_lt, lg_cmp_eq, Bool.false_eq_true, Bool.true_eq_false, reduceCtorEq, false_iff, true_iff, iff_true, iff_false, and_true, true_and, and_false, false_and, reduceIte, ite_true, ite_false, eq_self] at *)) <;> omega)), trivial⟩ rfl
              · refine wa_aload_n (i := 0) rfl rfl ?_
                refine wa_getr ck_12 fl_12_247 ly_84 rf_84_93 ?_
                refine wa_iload_n (i := 1) rfl rfl ?_
                refine wa_iald ly_152 (by ((try simp only [vp_in_iff, Int32.lt_iff_toInt_lt, Int32.le_iff_toInt_le, ← Int32.toInt_inj, Int32.reduceToInt, n_1, n_2, n_8, Int32.toNatClampNeg, Int64.lt_iff_toInt_lt, Int64.le_iff_toInt_le, ← Int64.toInt_inj, Int64.reduceToInt, Int32.toInt_toInt64, lg_cmp_ge, lg_cmp_le, lg_cmp_gt, lg_cmp_lt, lg_cmp_eq, Bool.false_eq_true, Bool.true_eq_false, reduceCtorEq, false_iff, true_iff, iff_true, iff_false, and_true, true_and, and_false, false_and, reduceIte, ite_true, ite_false, eq_self] at *)) <;> omega) ?_
                refine wa_top (fun v14 hv14 => ?_)
                have qv14 := hv14
                clear hv14
                refine wa_iload_n (i := 2) rfl rfl ?_
                refine wa_icmp_ne o_X12_collectRows_57 (by decide) (fun h15 => ?_) (fun h15 => ?_)
                · refine wa_iload_n (i := 2) rfl rfl ?_
                  refine wa_aload_n (i := 0) rfl rfl ?_
                  refine wa_getr ck_12 fl_12_235 ly_84 rf_84_89 ?_
                  refine wa_iload_n (i := 1) rfl rfl ?_
                  refine wa_iald ly_156 (by ((try simp only [vp_in_iff, Int32.lt_iff_toInt_lt, Int32.le_iff_toInt_le, ← Int32.toInt_inj, Int32.reduceToInt, n_1, n_2, n_8, Int32.toNatClampNeg, Int64.lt_iff_toInt_lt, Int64.le_iff_toInt_le, ← Int64.toInt_inj, Int64.reduceToInt, Int32.toInt_toInt64, lg_cmp_ge, lg_cmp_le, lg_cmp_gt, lg_cmp_lt, lg_cmp_eq, Bool.false_eq_true, Bool.true_eq_false, reduceCtorEq, false_iff, true_iff, iff_true, iff_false, and_true, true_and, and_false, false_and, reduceIte, ite_true, ite_false, eq_self] at *)) <;> omega) ?_
                  refine wa_top (fun v16 hv16 => ?_)
                  have rv16 : 0 ≤ v16.toInt ∧ v16.toInt ≤ 24 := by rw [← hv16]; exact ar_at (ar_fm Fs6 rfl rfl A_156) _
                  have qv16 := hv16
                  clear hv16
                  refine wa_icmp_ge o_X12_collectRows_123 (by decide) (fun h17 => ?_) (fun h17 => ?_)
                  · refine wa_iinc (v := (1)) (lv' := fun y18 => [(2, .int y18), (0, .ref 84), (1, .int l1)]) (by decide) rfl (by decide) (fun _ => rfl) (fun y18 hy18 => ?_)
                    have ty18 := i_addT hy18.symm
                    clear hy18
                    refine wa_goto o_X12_collectRows_17 (by decide) ?_
                    refine wa_pick [1, 2, 0] rfl ?_
                    exact ih7 _ (by ((try simp only [vp_in_iff, Int32.lt_iff_toInt_lt, Int32.le_iff_toInt_le, ← Int32.toInt_inj, Int32.reduceToInt, n_1, n_2, n_8, Int32.toNatClampNeg, Int64.lt_iff_toInt_lt, Int64.le_iff_toInt_le, ← Int64.toInt_inj, Int64.reduceToInt, Int32.toInt_toInt64, lg_cmp_ge, lg_cmp_le, lg_cmp_gt, lg_cmp_lt, lg_cmp_eq, Bool.false_eq_true, Bool.true_eq_false, reduceCtorEq, false_iff, true_iff, iff_true, iff_false, and_true, true_and, and_false, false_and, reduceIte, ite_true, ite_false, eq_self] at *)) <;> omega) _ _ ⟨Fs6, (khi8_0), (by first | assumption | (((try simp only [vp_in_iff, Int32.lt_iff_toInt_lt, Int32.le_iff_toInt_le, ← Int32.toInt_inj, Int32.reduceToInt, n_1, n_2, n_8, Int32.toNatClampNeg, Int64.lt_iff_toInt_lt, Int64.le_iff_toInt_le, ← Int64.toInt_inj, Int64.reduceToInt, Int32.toInt_toInt64, lg_cmp_ge, lg_cmp_le, lg_cmp_gt, lg_cmp_lt, lg_cmp_eq, Bool.false_eq_true, Bool.true_eq_false, reduceCtorEq, false_iff, true_iff, iff_true, iff_false, and_true, true_and, and_false, false_and, reduceIte, ite_true, ite_false, eq_self] at *)) <;> omega)), (by ((try simp only [vp_in_iff, Int32.lt_iff_toInt_lt, Int32.le_iff_toInt_le, ← Int32.toInt_inj, Int32.reduceToInt, n_1, n_2, n_8, Int32.toNatClampNeg, Int64.lt_iff_toInt_lt, Int64.le_iff_toInt_le, ← Int64.toInt_inj, Int64.reduceToInt, Int32.toInt_toInt64, lg_cmp_ge, lg_cmp_le, lg_cmp_gt, lg_cmp_lt, lg_cmp_eq, Bool.false_eq_true, Bool.true_eq_false, reduceCtorEq, false_iff, true_iff, iff_true, iff_false, and_true, true_and, and_false, false_and, reduceIte, ite_true, ite_false, eq_self] at *)) <;> omega), (by first | assumption | (((try simp only [vp_in_iff, Int32.lt_iff_toInt_lt, Int32.le_iff_toInt_le, ← Int32.toInt_inj, Int32.reduceToInt, n_1, n_2, n_8, Int32.toNatClampNeg, Int64.lt_iff_toInt_lt, Int64.le_iff_toInt_le, ← Int64.toInt_inj, Int64.reduceToInt, Int32.toInt_toInt64, lg_cmp_ge, lg_cmp_le, lg_cmp_gt, lg_cmp_lt, lg_cmp_eq, Bool.false_eq_true, Bool.true_eq_false, reduceCtorEq, false_iff, true_iff, iff_true, iff_false, and_true, true_and, and_false, false_and, reduceIte, ite_true, ite_false, eq_self] at *)) <;> omega)), (by first | assumption | (((try simp only [vp_in_iff, Int32.lt_iff_toInt_lt, Int32.le_iff_toInt_le, ← Int32.toInt_inj, Int32.reduceToInt, n_1, n_2, n_8, Int32.toNatClampNeg, Int64.lt_iff_toInt_lt, Int64.le_iff_toInt_le, ← Int64.toInt_inj, Int64.reduceToInt, Int32.toInt_toInt64, lg_cmp_ge, lg_cmp_le, lg_cmp_gt, lg_cmp_lt, lg_cmp_eq, Bool.false_eq_true, Bool.true_eq_false, reduceCtorEq, false_iff, true_iff, iff_true, iff_false, and_true, true_and, and_false, false_and, reduceIte, ite_true, ite_false, eq_self] at *)) <;> omega)), trivial⟩ rfl
                  · have mh17 := nle_mx h17
                    refine wa_bipush (v := 24) (by decide) ?_
                    refine wa_iload_n (i := 1) rfl rfl ?_
                    refine wa_imul ?_
                    refine wa_top (fun v19 hv19 => ?_)
                    have tv19 := i_mulT hv19
                    clear hv19
                    refine wa_iload_n (i := 2) rfl rfl ?_
                    refine wa_iadd ?_
                    refine wa_top (fun v20 hv20 => ?_)
                    have tv20 := i_addT hv20
                    clear hv20
                    refine wa_istore_nD (lv' := [(3, .int v20), (0, .ref 84), (1, .int l1), (2, .int l2)]) (i := 3) rfl (by decide) rfl ?_
                    refine wa_iconst (v := 0) (by decide) ?_
                    refine wa_istoreD (lv' := [(4, .int 0), (3, .int v20), (0, .ref 84), (1, .int l1), (2, .int l2)]) (by decide) rfl ?_
                    refine wa_pick [2, 3, 4, 1, 0] rfl ?_
                    have hi23 : ∀ (n9_77 : Nat) (l4 : Int32) (s21 : St), ((Fm [104, 105, 147] [101, 102, 160] σ s21) ∧ (gi s21 84 33 = gi σ 84 33) ∧ (gi s21 84 160 = gi s6 84 160) ∧ (gl s21 84 101 = gl s6 84 101) ∧ (0 ≤ l4.toInt) ∧ (True)) → (2147483647 - l4.toInt).toNat = n9_77 → WA G M_X12_collectRows (ZM G M_X12_collectRows d (fun r σ' => Fm [104, 105, 147] [101, 102, 160] σ σ' ∧ (0 ≤ (gi σ' 84 160).toInt ∧ (gi σ' 84 160).toInt ≤ 600) ∧ True)) B_X12_collectRows_77 [(0, .ref 84), (1, .int l1), (2, .int l2), (3, .int v20), (4, .int l4)] [] s21 := by
                      intro n9_77
                      induction n9_77 using Nat.strongRecOn with
                      | _ n9_77 ih22 =>
                        intro l4 s21 i9 m9_77
                        obtain ⟨Fs21, khi23_0, khi23_1, khi23_2, jhi23_0, -⟩ := i9
                        have ul4 := Int32.toInt_lt l4
                        have wl4 := Int32.le_toInt l4
                        refine wa_iload rfl ?_
                        refine wa_iconst (v := 4) (by decide) ?_
                        refine wa_icmp_ge o_X12_collectRows_108 (by decide) (fun h24 => ?_) (fun h24 => ?_)
                        · refine wa_aload_n (i := 0) rfl rfl ?_
                          refine wa_aload_n (i := 0) rfl rfl ?_
                          refine wa_getr ck_12 fl_12_229 ly_84 rf_84_87 ?_
                          refine wa_iload_n (i := 3) rfl rfl ?_
                          refine wa_iald ly_158 (by ((try simp only [vp_in_iff, Int32.lt_iff_toInt_lt, Int32.le_iff_toInt_le, ← Int32.toInt_inj, Int32.reduceToInt, n_1, n_2, n_8, Int32.toNatClampNeg, Int64.lt_iff_toInt_lt, Int64.le_iff_toInt_le, ← Int64.toInt_inj, Int64.reduceToInt, Int32.toInt_toInt64, lg_cmp_ge, lg_cmp_le, lg_cmp_gt, lg_cmp_lt, lg_cmp_eq, Bool.false_eq_true, Bool.true_eq_false, reduceCtorEq, false_iff, true_iff, iff_true, iff_false, and_true, true_and, and_false, false_and, reduceIte, ite_true, ite_false, eq_self] at *)) <;> omega) ?_
                          refine wa_top (fun v25 hv25 => ?_)
                          have rv25 : -99999 ≤ v25.toInt ∧ v25.toInt ≤ 99999 := by rw [← hv25]; exact ar_at (ar_fm Fs21 rfl rfl A_158) _
                          clear hv25
                          refine wa_i2l ?_
                          refine wa_putl ck_12 fl_12_736 ly_84 (fun s26 hs26 => ?_)
                          have Fs26 : Fm [104, 105, 147] [101, 102, 160] σ s26 := by rw [hs26]; exact Fm.sl Fs21 rfl
                          refine wa_aload_n (i := 0) rfl rfl ?_
                          refine wa_Vv (d9 := d - 1) [] [] (sp_X12_addNewRow G (d := d - 1) (by omega) s26  (by rw [(nx_gi_sl hs26).trans (khi23_1)]; first | assumption | exact Or.inl rfl | exact Or.inr rfl | (((try simp only [vp_in_iff, Int32.lt_iff_toInt_lt, Int32.le_iff_toInt_le, ← Int32.toInt_inj, Int32.reduceToInt, n_1, n_2, n_8, Int32.toNatClampNeg, Int64.lt_iff_toInt_lt, Int64.le_iff_toInt_le, ← Int64.toInt_inj, Int64.reduceToInt, Int32.toInt_toInt64, lg_cmp_ge, lg_cmp_le, lg_cmp_gt, lg_cmp_lt, lg_cmp_eq, Bool.false_eq_true, Bool.true_eq_false, reduceCtorEq, false_iff, true_iff, iff_true, iff_false, and_true, true_and, and_false, false_and, reduceIte, ite_true, ite_false, eq_self] at *)) <;> omega))) (rfl) rfl rfl (zr (by omega)) mk_X12_addNewRow ly_84 ml_12_1076 (Nat.le_of_ble_eq_true rfl) (fun s27 hs27 => ?_)
                          obtain ⟨fs27, cx28_1, -⟩ := hs27
                          rw [(nx_gi_sl hs26).trans (khi23_1)] at cx28_1
                          have Fs27 : Fm [104, 105, 147] [101, 102, 160] σ s27 := Fm.tr Fs26 (Fm.wd fs27 rfl rfl)
                          refine wa_iinc (v := (1)) (lv' := fun y29 => [(2, .int y29), (0, .ref 84), (1, .int l1), (3, .int v20), (4, .int l4)]) (by decide) rfl (by decide) (fun _ => rfl) (fun y29 hy29 => ?_)
                          have ty29 := i_addT hy29.symm
                          clear hy29
                          refine wa_goto o_X12_collectRows_17 (by decide) ?_
                          refine wa_pick [1, 2, 0] rfl ?_
                          exact ih7 _ (by ((try simp only [vp_in_iff, Int32.lt_iff_toInt_lt, Int32.le_iff_toInt_le, ← Int32.toInt_inj, Int32.reduceToInt, n_1, n_2, n_8, Int32.toNatClampNeg, Int64.lt_iff_toInt_lt, Int64.le_iff_toInt_le, ← Int64.toInt_inj, Int64.reduceToInt, Int32.toInt_toInt64, lg_cmp_ge, lg_cmp_le, lg_cmp_gt, lg_cmp_lt, lg_cmp_eq, Bool.false_eq_true, Bool.true_eq_false, reduceCtorEq, false_iff, true_iff, iff_true, iff_false, and_true, true_and, and_false, false_and, reduceIte, ite_true, ite_false, eq_self] at *)) <;> omega) _ _ ⟨Fs27, ((Fm.gi fs27 (q := 84) (k := 33) rfl rfl).trans ((nx_gi_sl hs26).trans (khi23_0))), (by first | assumption | (((try simp only [vp_in_iff, Int32.lt_iff_toInt_lt, Int32.le_iff_toInt_le, ← Int32.toInt_inj, Int32.reduceToInt, n_1, n_2, n_8, Int32.toNatClampNeg, Int64.lt_iff_toInt_lt, Int64.le_iff_toInt_le, ← Int64.toInt_inj, Int64.reduceToInt, Int32.toInt_toInt64, lg_cmp_ge, lg_cmp_le, lg_cmp_gt, lg_cmp_lt, lg_cmp_eq, Bool.false_eq_true, Bool.true_eq_false, reduceCtorEq, false_iff, true_iff, iff_true, iff_false, and_true, true_and, and_false, false_and, reduceIte, ite_true, ite_false, eq_self] at *)) <;> omega)), (by ((try simp only [vp_in_iff, Int32.lt_iff_toInt_lt, Int32.le_iff_toInt_le, ← Int32.toInt_inj, Int32.reduceToInt, n_1, n_2, n_8, Int32.toNatClampNeg, Int64.lt_iff_toInt_lt, Int64.le_iff_toInt_le, ← Int64.toInt_inj, Int64.reduceToInt, Int32.toInt_toInt64, lg_cmp_ge, lg_cmp_le, lg_cmp_gt, lg_cmp_lt, lg_cmp_eq, Bool.false_eq_true, Bool.true_eq_false, reduceCtorEq, false_iff, true_iff, iff_true, iff_false, and_true, true_and, and_false, false_and, reduceIte, ite_true, ite_false, eq_self] at *)) <;> omega), (by first | assumption | (((try simp only [vp_in_iff, Int32.lt_iff_toInt_lt, Int32.le_iff_toInt_le, ← Int32.toInt_inj, Int32.reduceToInt, n_1, n_2, n_8, Int32.toNatClampNeg, Int64.lt_iff_toInt_lt, Int64.le_iff_toInt_le, ← Int64.toInt_inj, Int64.reduceToInt, Int32.toInt_toInt64, lg_cmp_ge, lg_cmp_le, lg_cmp_gt, lg_cmp_lt, lg_cmp_eq, Bool.false_eq_true, Bool.true_eq_false, reduceCtorEq, false_iff, true_iff, iff_true, iff_false, and_true, true_and, and_false, false_and, reduceIte, ite_true, ite_false, eq_self] at *)) <;> omega)), (by first | assumption | (((try simp only [vp_in_iff, Int32.lt_iff_toInt_lt, Int32.le_iff_toInt_le, ← Int32.toInt_inj, Int32.reduceToInt, n_1, n_2, n_8, Int32.toNatClampNeg, Int64.lt_iff_toInt_lt, Int64.le_iff_toInt_le, ← Int64.toInt_inj, Int64.reduceToInt, Int32.toInt_toInt64, lg_cmp_ge, lg_cmp_le, lg_cmp_gt, lg_cmp_lt, lg_cmp_eq, Bool.false_eq_true, Bool.true_eq_false, reduceCtorEq, false_iff, true_iff, iff_true, iff_false, and_true, true_and, and_false, false_and, reduceIte, ite_true, ite_false, eq_self] at *)) <;> omega)), trivial⟩ rfl
                        · have mh24 := nle_mx h24
                          refine wa_aload_n (i := 0) rfl rfl ?_
                          refine wa_getr ck_12 fl_12_262 ly_84 rf_84_100 ?_
                          refine wa_iload rfl ?_
                          refine wa_aload_n (i := 0) rfl rfl ?_
                          refine wa_getr ck_12 fl_12_226 ly_84 rf_84_86 ?_
                          refine wa_iconst (v := 4) (by decide) ?_
                          refine wa_iload_n (i := 3) rfl rfl ?_
                          refine wa_imul ?_
                          refine wa_top (fun v30 hv30 => ?_)
                          have tv30 := i_mulT hv30
                          clear hv30
                          refine wa_iload rfl ?_
                          refine wa_iadd ?_
                          refine wa_top (fun v31 hv31 => ?_)
                          have tv31 := i_addT hv31
                          clear hv31
                          refine wa_iald ly_159 (by ((try simp only [vp_in_iff, Int32.lt_iff_toInt_lt, Int32.le_iff_toInt_le, ← Int32.toInt_inj, Int32.reduceToInt, n_1, n_2, n_8, Int32.toNatClampNeg, Int64.lt_iff_toInt_lt, Int64.le_iff_toInt_le, ← Int64.toInt_inj, Int64.reduceToInt, Int32.toInt_toInt64, lg_cmp_ge, lg_cmp_le, lg_cmp_gt, lg_cmp_lt, lg_cmp_eq, Bool.false_eq_true, Bool.true_eq_false, reduceCtorEq, false_iff, true_iff, iff_true, iff_false, and_true, true_and, and_false, false_and, reduceIte, ite_true, ite_false, eq_self] at *)) <;> omega) ?_
                          refine wa_top (fun v32 hv32 => ?_)
                          have rv32 : -20 ≤ v32.toInt ∧ v32.toInt ≤ 20 := by rw [← hv32]; exact ar_at (ar_fm Fs21 rfl rfl A_159) _
                          clear hv32
                          refine wa_i2l ?_
                          refine wa_last ly_147 (by ((try simp only [vp_in_iff, Int32.lt_iff_toInt_lt, Int32.le_iff_toInt_le, ← Int32.toInt_inj, Int32.reduceToInt, n_1, n_2, n_8, Int32.toNatClampNeg, Int64.lt_iff_toInt_lt, Int64.le_iff_toInt_le, ← Int64.toInt_inj, Int64.reduceToInt, Int32.toInt_toInt64, lg_cmp_ge, lg_cmp_le, lg_cmp_gt, lg_cmp_lt, lg_cmp_eq, Bool.false_eq_true, Bool.true_eq_false, reduceCtorEq, false_iff, true_iff, iff_true, iff_false, and_true, true_and, and_false, false_and, reduceIte, ite_true, ite_false, eq_self] at *)) <;> omega) (fun s33 hs33 => ?_)
                          have Fs33 : Fm [104, 105, 147] [101, 102, 160] σ s33 := by rw [hs33]; exact Fm.sl Fs21 rfl
                          refine wa_iinc (v := (1)) (lv' := fun y34 => [(4, .int y34), (0, .ref 84), (1, .int l1), (2, .int l2), (3, .int v20)]) (by decide) rfl (by decide) (fun _ => rfl) (fun y34 hy34 => ?_)
                          have ty34 := i_addT hy34.symm
                          clear hy34
                          refine wa_goto o_X12_collectRows_77 (by decide) ?_
                          refine wa_pick [1, 2, 3, 4, 0] rfl ?_
                          exact ih22 _ (by ((try simp only [vp_in_iff, Int32.lt_iff_toInt_lt, Int32.le_iff_toInt_le, ← Int32.toInt_inj, Int32.reduceToInt, n_1, n_2, n_8, Int32.toNatClampNeg, Int64.lt_iff_toInt_lt, Int64.le_iff_toInt_le, ← Int64.toInt_inj, Int64.reduceToInt, Int32.toInt_toInt64, lg_cmp_ge, lg_cmp_le, lg_cmp_gt, lg_cmp_lt, lg_cmp_eq, Bool.false_eq_true, Bool.true_eq_false, reduceCtorEq, false_iff, true_iff, iff_true, iff_false, and_true, true_and, and_false, false_and, reduceIte, ite_true, ite_false, eq_self] at *)) <;> omega) _ _ ⟨Fs33, ((nx_gi_sl hs33).trans (khi23_0)), ((nx_gi_sl hs33).trans (khi23_1)), ((nxq_gl_sl hs33 (by decide)).trans (khi23_2)), (by ((try simp only [vp_in_iff, Int32.lt_iff_toInt_lt, Int32.le_iff_toInt_le, ← Int32.toInt_inj, Int32.reduceToInt, n_1, n_2, n_8, Int32.toNatClampNeg, Int64.lt_iff_toInt_lt, Int64.le_iff_toInt_le, ← Int64.toInt_inj, Int64.reduceToInt, Int32.toInt_toInt64, lg_cmp_ge, lg_cmp_le, lg_cmp_gt, lg_cmp_lt, lg_cmp_eq, Bool.false_eq_true, Bool.true_eq_false, reduceCtorEq, false_iff, true_iff, iff_true, iff_false, and_true, true_and, and_false, false_and, reduceIte, ite_true, ite_false, eq_self] at *)) <;> omega), trivial⟩ rfl
                    exact hi23 _ _ _ ⟨Fs6, (khi8_0), (rfl), (rfl), (by ((try simp only [vp_in_iff, Int32.lt_iff_toInt_lt, Int32.le_iff_toInt_le, ← Int32.toInt_inj, Int32.reduceToInt, n_1, n_2, n_8, Int32.toNatClampNeg, Int64.lt_iff_toInt_lt, Int64.le_iff_toInt_le, ← Int64.toInt_inj, Int64.reduceToInt, Int32.toInt_toInt64, lg_cmp_ge, lg_cmp_le, lg_cmp_gt, lg_cmp_lt, lg_cmp_eq, Bool.false_eq_true, Bool.true_eq_false, reduceCtorEq, false_iff, true_iff, iff_true, iff_false, and_true, true_and, and_false, false_and, reduceIte, ite_true, ite_false, eq_self] at *)) <;> omega), trivial⟩ rfl
                · refine wa_aload_n (i := 0) rfl rfl ?_
                  refine wa_ldc2 (v := (-1)) (allW_in (kT_12 _ (List.mem_of_getElem? (i := 97) rfl)) rfl) ?_
                  refine wa_Vv (d9 := d - 1) [.long _] [] (sp_X12_clearHere G (d := d - 1) (by omega) s6 _) (rfl) rfl rfl (zr (by omega)) mk_X12_clearHere ly_84 ml_12_771 (Nat.le_of_ble_eq_true rfl) (fun s35 hs35 => ?_)
                  obtain ⟨fs35, -⟩ := hs35
                  have Fs35 : Fm [104, 105, 147] [101, 102, 160] σ s35 := Fm.tr Fs6 (Fm.wd fs35 rfl rfl)
                  refine wa_aload_n (i := 0) rfl rfl ?_
                  refine wa_Vv (d9 := d - 1) [] [] (sp_X12_addNewRow G (d := d - 1) (by omega) s35  (by rw [Fm.gi fs35 (q := 84) (k := 160) rfl rfl]; first | assumption | exact Or.inl rfl | exact Or.inr rfl | (((try simp only [vp_in_iff, Int32.lt_iff_toInt_lt, Int32.le_iff_toInt_le, ← Int32.toInt_inj, Int32.reduceToInt, n_1, n_2, n_8, Int32.toNatClampNeg, Int64.lt_iff_toInt_lt, Int64.le_iff_toInt_le, ← Int64.toInt_inj, Int64.reduceToInt, Int32.toInt_toInt64, lg_cmp_ge, lg_cmp_le, lg_cmp_gt, lg_cmp_lt, lg_cmp_eq, Bool.false_eq_true, Bool.true_eq_false, reduceCtorEq, false_iff, true_iff, iff_true, iff_false, and_true, true_and, and_false, false_and, reduceIte, ite_true, ite_false, eq_self] at *)) <;> omega))) (rfl) rfl rfl (zr (by omega)) mk_X12_addNewRow ly_84 ml_12_1076 (Nat.le_of_ble_eq_true rfl) (fun s37 hs37 => ?_)
                  obtain ⟨fs37, cx38_1, -⟩ := hs37
                  rw [Fm.gi fs35 (q := 84) (k := 160) rfl rfl] at cx38_1
                  have Fs37 : Fm [104, 105, 147] [101, 102, 160] σ s37 := Fm.tr Fs35 (Fm.wd fs37 rfl rfl)
                  refine wa_iload_n (i := 2) rfl rfl ?_
                  refine wa_aload_n (i := 0) rfl rfl ?_
                  refine wa_getr ck_12 fl_12_235 ly_84 rf_84_89 ?_
                  refine wa_iload_n (i := 1) rfl rfl ?_
                  refine wa_iald ly_156 (by ((try simp only [vp_in_iff, Int32.lt_iff_toInt_lt, Int32.le_iff_toInt_le, ← Int32.toInt_inj, Int32.reduceToInt, n_1, n_2, n_8, Int32.toNatClampNeg, Int64.lt_iff_toInt_lt, Int64.le_iff_toInt_le, ← Int64.toInt_inj, Int64.reduceToInt, Int32.toInt_toInt64, lg_cmp_ge, lg_cmp_le, lg_cmp_gt, lg_cmp_lt, lg_cmp_eq, Bool.false_eq_true, Bool.true_eq_false, reduceCtorEq, false_iff, true_iff, iff_true, iff_false, and_true, true_and, and_false, false_and, reduceIte, ite_true, ite_false, eq_self] at *)) <;> omega) ?_
                  refine wa_top (fun v39 hv39 => ?_)
                  have rv39 : 0 ≤ v39.toInt ∧ v39.toInt ≤ 24 := by rw [← hv39]; exact ar_at (ar_fm fs37 rfl rfl (ar_fm fs35 rfl rfl (ar_fm Fs6 rfl rfl A_156))) _
                  have qv39 := hv39
                  clear hv39
                  refine wa_icmp_ge o_X12_collectRows_123 (by decide) (fun h40 => ?_) (fun h40 => ?_)
                  · refine wa_iinc (v := (1)) (lv' := fun y41 => [(2, .int y41), (0, .ref 84), (1, .int l1)]) (by decide) rfl (by decide) (fun _ => rfl) (fun y41 hy41 => ?_)
                    have ty41 := i_addT hy41.symm
                    clear hy41
                    refine wa_goto o_X12_collectRows_17 (by decide) ?_
                    refine wa_pick [1, 2, 0] rfl ?_
                    exact ih7 _ (by ((try simp only [vp_in_iff, Int32.lt_iff_toInt_lt, Int32.le_iff_toInt_le, ← Int32.toInt_inj, Int32.reduceToInt, n_1, n_2, n_8, Int32.toNatClampNeg, Int64.lt_iff_toInt_lt, Int64.le_iff_toInt_le, ← Int64.toInt_inj, Int64.reduceToInt, Int32.toInt_toInt64, lg_cmp_ge, lg_cmp_le, lg_cmp_gt, lg_cmp_lt, lg_cmp_eq, Bool.false_eq_true, Bool.true_eq_false, reduceCtorEq, false_iff, true_iff, iff_true, iff_false, and_true, true_and, and_false, false_and, reduceIte, ite_true, ite_false, eq_self] at *)) <;> omega) _ _ ⟨Fs37, ((Fm.gi fs37 (q := 84) (k := 33) rfl rfl).trans ((Fm.gi fs35 (q := 84) (k := 33) rfl rfl).trans (khi8_0))), (by first | assumption | (((try simp only [vp_in_iff, Int32.lt_iff_toInt_lt, Int32.le_iff_toInt_le, ← Int32.toInt_inj, Int32.reduceToInt, n_1, n_2, n_8, Int32.toNatClampNeg, Int64.lt_iff_toInt_lt, Int64.le_iff_toInt_le, ← Int64.toInt_inj, Int64.reduceToInt, Int32.toInt_toInt64, lg_cmp_ge, lg_cmp_le, lg_cmp_gt, lg_cmp_lt, lg_cmp_eq, Bool.false_eq_true, Bool.true_eq_false, reduceCtorEq, false_iff, true_iff, iff_true, iff_false, and_true, true_and, and_false, false_and, reduceIte, ite_true, ite_false, eq_self] at *)) <;> omega)), (by ((try simp only [vp_in_iff, Int32.lt_iff_toInt_lt, Int32.le_iff_toInt_le, ← Int32.toInt_inj, Int32.reduceToInt, n_1, n_2, n_8, Int32.toNatClampNeg, Int64.lt_iff_toInt_lt, Int64.le_iff_toInt_le, ← Int64.toInt_inj, Int64.reduceToInt, Int32.toInt_toInt64, lg_cmp_ge, lg_cmp_le, lg_cmp_gt, lg_cmp_lt, lg_cmp_eq, Bool.false_eq_true, Bool.true_eq_false, reduceCtorEq, false_iff, true_iff, iff_true, iff_false, and_true, true_and, and_false, false_and, reduceIte, ite_true, ite_false, eq_self] at *)) <;> omega), (by first | assumption | (((try simp only [vp_in_iff, Int32.lt_iff_toInt_lt, Int32.le_iff_toInt_le, ← Int32.toInt_inj, Int32.reduceToInt, n_1, n_2, n_8, Int32.toNatClampNeg, Int64.lt_iff_toInt_lt, Int64.le_iff_toInt_le, ← Int64.toInt_inj, Int64.reduceToInt, Int32.toInt_toInt64, lg_cmp_ge, lg_cmp_le, lg_cmp_gt, lg_cmp_lt, lg_cmp_eq, Bool.false_eq_true, Bool.true_eq_false, reduceCtorEq, false_iff, true_iff, iff_true, iff_false, and_true, true_and, and_false, false_and, reduceIte, ite_true, ite_false, eq_self] at *)) <;> omega)), (by first | assumption | (((try simp only [vp_in_iff, Int32.lt_iff_toInt_lt, Int32.le_iff_toInt_le, ← Int32.toInt_inj, Int32.reduceToInt, n_1, n_2, n_8, Int32.toNatClampNeg, Int64.lt_iff_toInt_lt, Int64.le_iff_toInt_le, ← Int64.toInt_inj, Int64.reduceToInt, Int32.toInt_toInt64, lg_cmp_ge, lg_cmp_le, lg_cmp_gt, lg_cmp_lt, lg_cmp_eq, Bool.false_eq_true, Bool.true_eq_false, reduceCtorEq, false_iff, true_iff, iff_true, iff_false, and_true, true_and, and_false, false_and, reduceIte, ite_true, ite_false, eq_self] at *)) <;> omega)), trivial⟩ rfl
                  · have mh40 := nle_mx h40
                    refine wa_bipush (v := 24) (by decide) ?_
                    refine wa_iload_n (i := 1) rfl rfl ?_
                    refine wa_imul ?_
                    refine wa_top (fun v42 hv42 => ?_)
                    have tv42 := i_mulT hv42
                    clear hv42
                    refine wa_iload_n (i := 2) rfl rfl ?_
                    refine wa_iadd ?_
                    refine wa_top (fun v43 hv43 => ?_)
                    have tv43 := i_addT hv43
                    clear hv43
                    refine wa_istore_nD (lv' := [(3, .int v43), (0, .ref 84), (1, .int l1), (2, .int l2)]) (i := 3) rfl (by decide) rfl ?_
                    refine wa_iconst (v := 0) (by decide) ?_
                    refine wa_istoreD (lv' := [(4, .int 0), (3, .int v43), (0, .ref 84), (1, .int l1), (2, .int l2)]) (by decide) rfl ?_
                    refine wa_pick [2, 3, 4, 1, 0] rfl ?_
                    have hi46 : ∀ (n9_77 : Nat) (l4 : Int32) (s44 : St), ((Fm [104, 105, 147] [101, 102, 160] σ s44) ∧ (gi s44 84 33 = gi σ 84 33) ∧ (gi s44 84 160 = gi s37 84 160) ∧ (gl s44 84 101 = gl s35 84 101) ∧ (0 ≤ l4.toInt) ∧ (True)) → (2147483647 - l4.toInt).toNat = n9_77 → WA G M_X12_collectRows (ZM G M_X12_collectRows d (fun r σ' => Fm [104, 105, 147] [101, 102, 160] σ σ' ∧ (0 ≤ (gi σ' 84 160).toInt ∧ (gi σ' 84 160).toInt ≤ 600) ∧ True)) B_X12_collectRows_77 [(0, .ref 84), (1, .int l1), (2, .int l2), (3, .int v43), (4, .int l4)] [] s44 := by
                      intro n9_77
                      induction n9_77 using Nat.strongRecOn with
                      | _ n9_77 ih45 =>
                        intro l4 s44 i9 m9_77
                        obtain ⟨Fs44, khi46_0, khi46_1, khi46_2, jhi46_0, -⟩ := i9
                        have ul4 := Int32.toInt_lt l4
                        have wl4 := Int32.le_toInt l4
                        refine wa_iload rfl ?_
                        refine wa_iconst (v := 4) (by decide) ?_
                        refine wa_icmp_ge o_X12_collectRows_108 (by decide) (fun h47 => ?_) (fun h47 => ?_)
                        · refine wa_aload_n (i := 0) rfl rfl ?_
                          refine wa_aload_n (i := 0) rfl rfl ?_
                          refine wa_getr ck_12 fl_12_229 ly_84 rf_84_87 ?_
                          refine wa_iload_n (i := 3) rfl rfl ?_
                          refine wa_iald ly_158 (by ((try simp only [vp_in_iff, Int32.lt_iff_toInt_lt, Int32.le_iff_toInt_le, ← Int32.toInt_inj, Int32.reduceToInt, n_1, n_2, n_8, Int32.toNatClampNeg, Int64.lt_iff_toInt_lt, Int64.le_iff_toInt_le, ← Int64.toInt_inj, Int64.reduceToInt, Int32.toInt_toInt64, lg_cmp_ge, lg_cmp_le, lg_cmp_gt, lg_cmp_lt, lg_cmp_eq, Bool.false_eq_true, Bool.true_eq_false, reduceCtorEq, false_iff, true_iff, iff_true, iff_false, and_true, true_and, and_false, false_and, reduceIte, ite_true, ite_false, eq_self] at *)) <;> omega) ?_
                          refine wa_top (fun v48 hv48 => ?_)
                          have rv48 : -99999 ≤ v48.toInt ∧ v48.toInt ≤ 99999 := by rw [← hv48]; exact ar_at (ar_fm Fs44 rfl rfl A_158) _
                          clear hv48
                          refine wa_i2l ?_
                          refine wa_putl ck_12 fl_12_736 ly_84 (fun s49 hs49 => ?_)
                          have Fs49 : Fm [104, 105, 147] [101, 102, 160] σ s49 := by rw [hs49]; exact Fm.sl Fs44 rfl
                          refine wa_aload_n (i := 0) rfl rfl ?_
                          refine wa_Vv (d9 := d - 1) [] [] (sp_X12_addNewRow G (d := d - 1) (by omega) s49  (by rw [(nx_gi_sl hs49).trans (khi46_1)]; first | assumption | exact Or.inl rfl | exact Or.inr rfl | (((try simp only [vp_in_iff, Int32.lt_iff_toInt_lt, Int32.le_iff_toInt_le, ← Int32.toInt_inj, Int32.reduceToInt, n_1, n_2, n_8, Int32.toNatClampNeg, Int64.lt_iff_toInt_lt, Int64.le_iff_toInt_le, ← Int64.toInt_inj, Int64.reduceToInt, Int32.toInt_toInt64, lg_cmp_ge, lg_cmp_le, lg_cmp_gt, lg_cmp_lt, lg_cmp_eq, Bool.false_eq_true, Bool.true_eq_false, reduceCtorEq, false_iff, true_iff, iff_true, iff_false, and_true, true_and, and_false, false_and, reduceIte, ite_true, ite_false, eq_self] at *)) <;> omega))) (rfl) rfl rfl (zr (by omega)) mk_X12_addNewRow ly_84 ml_12_1076 (Nat.le_of_ble_eq_true rfl) (fun s50 hs50 => ?_)
                          obtain ⟨fs50, cx51_1, -⟩ := hs50
                          rw [(nx_gi_sl hs49).trans (khi46_1)] at cx51_1
                          have Fs50 : Fm [104, 105, 147] [101, 102, 160] σ s50 := Fm.tr Fs49 (Fm.wd fs50 rfl rfl)
                          refine wa_iinc (v := (1)) (lv' := fun y52 => [(2, .int y52), (0, .ref 84), (1, .int l1), (3, .int v43), (4, .int l4)]) (by decide) rfl (by decide) (fun _ => rfl) (fun y52 hy52 => ?_)
                          have ty52 := i_addT hy52.symm
                          clear hy52
                          refine wa_goto o_X12_collectRows_17 (by decide) ?_
                          refine wa_pick [1, 2, 0] rfl ?_
                          exact ih7 _ (by ((try simp only [vp_in_iff, Int32.lt_iff_toInt_lt, Int32.le_iff_toInt_le, ← Int32.toInt_inj, Int32.reduceToInt, n_1, n_2, n_8, Int32.toNatClampNeg, Int64.lt_iff_toInt_lt, Int64.le_iff_toInt_le, ← Int64.toInt_inj, Int64.reduceToInt, Int32.toInt_toInt64, lg_cmp_ge, lg_cmp_le, lg_cmp_gt, lg_cmp_lt, lg_cmp_eq, Bool.false_eq_true, Bool.true_eq_false, reduceCtorEq, false_iff, true_iff, iff_true, iff_false, and_true, true_and, and_false, false_and, reduceIte, ite_true, ite_false, eq_self] at *)) <;> omega) _ _ ⟨Fs50, ((Fm.gi fs50 (q := 84) (k := 33) rfl rfl).trans ((nx_gi_sl hs49).trans (khi46_0))), (by first | assumption | (((try simp only [vp_in_iff, Int32.lt_iff_toInt_lt, Int32.le_iff_toInt_le, ← Int32.toInt_inj, Int32.reduceToInt, n_1, n_2, n_8, Int32.toNatClampNeg, Int64.lt_iff_toInt_lt, Int64.le_iff_toInt_le, ← Int64.toInt_inj, Int64.reduceToInt, Int32.toInt_toInt64, lg_cmp_ge, lg_cmp_le, lg_cmp_gt, lg_cmp_lt, lg_cmp_eq, Bool.false_eq_true, Bool.true_eq_false, reduceCtorEq, false_iff, true_iff, iff_true, iff_false, and_true, true_and, and_false, false_and, reduceIte, ite_true, ite_false, eq_self] at *)) <;> omega)), (by ((try simp only [vp_in_iff, Int32.lt_iff_toInt_lt, Int32.le_iff_toInt_le, ← Int32.toInt_inj, Int32.reduceToInt, n_1, n_2, n_8, Int32.toNatClampNeg, Int64.lt_iff_toInt_lt, Int64.le_iff_toInt_le, ← Int64.toInt_inj, Int64.reduceToInt, Int32.toInt_toInt64, lg_cmp_ge, lg_cmp_le, lg_cmp_gt, lg_cmp_lt, lg_cmp_eq, Bool.false_eq_true, Bool.true_eq_false, reduceCtorEq, false_iff, true_iff, iff_true, iff_false, and_true, true_and, and_false, false_and, reduceIte, ite_true, ite_false, eq_self] at *)) <;> omega), (by first | assumption | (((try simp only [vp_in_iff, Int32.lt_iff_toInt_lt, Int32.le_iff_toInt_le, ← Int32.toInt_inj, Int32.reduceToInt, n_1, n_2, n_8, Int32.toNatClampNeg, Int64.lt_iff_toInt_lt, Int64.le_iff_toInt_le, ← Int64.toInt_inj, Int64.reduceToInt, Int32.toInt_toInt64, lg_cmp_ge, lg_cmp_le, lg_cmp_gt, lg_cmp_lt, lg_cmp_eq, Bool.false_eq_true, Bool.true_eq_false, reduceCtorEq, false_iff, true_iff, iff_true, iff_false, and_true, true_and, and_false, false_and, reduceIte, ite_true, ite_false, eq_self] at *)) <;> omega)), (by first | assumption | (((try simp only [vp_in_iff, Int32.lt_iff_toInt_lt, Int32.le_iff_toInt_le, ← Int32.toInt_inj, Int32.reduceToInt, n_1, n_2, n_8, Int32.toNatClampNeg, Int64.lt_iff_toInt_lt, Int64.le_iff_toInt_le, ← Int64.toInt_inj, Int64.reduceToInt, Int32.toInt_toInt64, lg_cmp_ge, lg_cmp_le, lg_cmp_gt, lg_cmp_lt, lg_cmp_eq, Bool.false_eq_true, Bool.true_eq_false, reduceCtorEq, false_iff, true_iff, iff_true, iff_false, and_true, true_and, and_false, false_and, reduceIte, ite_true, ite_false, eq_self] at *)) <;> omega)), trivial⟩ rfl
                        · have mh47 := nle_mx h47
                          refine wa_aload_n (i := 0) rfl rfl ?_
                          refine wa_getr ck_12 fl_12_262 ly_84 rf_84_100 ?_
                          refine wa_iload rfl ?_
                          refine wa_aload_n (i := 0) rfl rfl ?_
                          refine wa_getr ck_12 fl_12_226 ly_84 rf_84_86 ?_
                          refine wa_iconst (v := 4) (by decide) ?_
                          refine wa_iload_n (i := 3) rfl rfl ?_
                          refine wa_imul ?_
                          refine wa_top (fun v53 hv53 => ?_)
                          have tv53 := i_mulT hv53
                          clear hv53
                          refine wa_iload rfl ?_
                          refine wa_iadd ?_
                          refine wa_top (fun v54 hv54 => ?_)
                          have tv54 := i_addT hv54
                          clear hv54
                          refine wa_iald ly_159 (by ((try simp only [vp_in_iff, Int32.lt_iff_toInt_lt, Int32.le_iff_toInt_le, ← Int32.toInt_inj, Int32.reduceToInt, n_1, n_2, n_8, Int32.toNatClampNeg, Int64.lt_iff_toInt_lt, Int64.le_iff_toInt_le, ← Int64.toInt_inj, Int64.reduceToInt, Int32.toInt_toInt64, lg_cmp_ge, lg_cmp_le, lg_cmp_gt, lg_cmp_lt, lg_cmp_eq, Bool.false_eq_true, Bool.true_eq_false, reduceCtorEq, false_iff, true_iff, iff_true, iff_false, and_true, true_and, and_false, false_and, reduceIte, ite_true, ite_false, eq_self] at *)) <;> omega) ?_
                          refine wa_top (fun v55 hv55 => ?_)
                          have rv55 : -20 ≤ v55.toInt ∧ v55.toInt ≤ 20 := by rw [← hv55]; exact ar_at (ar_fm Fs44 rfl rfl A_159) _
                          clear hv55
                          refine wa_i2l ?_
                          refine wa_last ly_147 (by ((try simp only [vp_in_iff, Int32.lt_iff_toInt_lt, Int32.le_iff_toInt_le, ← Int32.toInt_inj, Int32.reduceToInt, n_1, n_2, n_8, Int32.toNatClampNeg, Int64.lt_iff_toInt_lt, Int64.le_iff_toInt_le, ← Int64.toInt_inj, Int64.reduceToInt, Int32.toInt_toInt64, lg_cmp_ge, lg_cmp_le, lg_cmp_gt, lg_cmp_lt, lg_cmp_eq, Bool.false_eq_true, Bool.true_eq_false, reduceCtorEq, false_iff, true_iff, iff_true, iff_false, and_true, true_and, and_false, false_and, reduceIte, ite_true, ite_false, eq_self] at *)) <;> omega) (fun s56 hs56 => ?_)
                          have Fs56 : Fm [104, 105, 147] [101, 102, 160] σ s56 := by rw [hs56]; exact Fm.sl Fs44 rfl
                          refine wa_iinc (v := (1)) (lv' := fun y57 => [(4, .int y57), (0, .ref 84), (1, .int l1), (2, .int l2), (3, .int v43)]) (by decide) rfl (by decide) (fun _ => rfl) (fun y57 hy57 => ?_)
                          have ty57 := i_addT hy57.symm
                          clear hy57
                          refine wa_goto o_X12_collectRows_77 (by decide) ?_
                          refine wa_pick [1, 2, 3, 4, 0] rfl ?_
                          exact ih45 _ (by ((try simp only [vp_in_iff, Int32.lt_iff_toInt_lt, Int32.le_iff_toInt_le, ← Int32.toInt_inj, Int32.reduceToInt, n_1, n_2, n_8, Int32.toNatClampNeg, Int64.lt_iff_toInt_lt, Int64.le_iff_toInt_le, ← Int64.toInt_inj, Int64.reduceToInt, Int32.toInt_toInt64, lg_cmp_ge, lg_cmp_le, lg_cmp_gt, lg_cmp_lt, lg_cmp_eq, Bool.false_eq_true, Bool.true_eq_false, reduceCtorEq, false_iff, true_iff, iff_true, iff_false, and_true, true_and, and_false, false_and, reduceIte, ite_true, ite_false, eq_self] at *)) <;> omega) _ _ ⟨Fs56, ((nx_gi_sl hs56).trans (khi46_0)), ((nx_gi_sl hs56).trans (khi46_1)), ((nxq_gl_sl hs56 (by decide)).trans (khi46_2)), (by ((try simp only [vp_in_iff, Int32.lt_iff_toInt_lt, Int32.le_iff_toInt_le, ← Int32.toInt_inj, Int32.reduceToInt, n_1, n_2, n_8, Int32.toNatClampNeg, Int64.lt_iff_toInt_lt, Int64.le_iff_toInt_le, ← Int64.toInt_inj, Int64.reduceToInt, Int32.toInt_toInt64, lg_cmp_ge, lg_cmp_le, lg_cmp_gt, lg_cmp_lt, lg_cmp_eq, Bool.false_eq_true, Bool.true_eq_false, reduceCtorEq, false_iff, true_iff, iff_true, iff_false, and_true, true_and, and_false, false_and, reduceIte, ite_true, ite_false, eq_self] at *)) <;> omega), trivial⟩ rfl
                    exact hi46 _ _ _ ⟨Fs37, ((Fm.gi fs37 (q := 84) (k := 33) rfl rfl).trans ((Fm.gi fs35 (q := 84) (k := 33) rfl rfl).trans (khi8_0))), (rfl), (Fm.gl fs37 (q := 84) (k := 101) rfl rfl), (by ((try simp only [vp_in_iff, Int32.lt_iff_toInt_lt, Int32.le_iff_toInt_le, ← Int32.toInt_inj, Int32.reduceToInt, n_1, n_2, n_8, Int32.toNatClampNeg, Int64.lt_iff_toInt_lt, Int64.le_iff_toInt_le, ← Int64.toInt_inj, Int64.reduceToInt, Int32.toInt_toInt64, lg_cmp_ge, lg_cmp_le, lg_cmp_gt, lg_cmp_lt, lg_cmp_eq, Bool.false_eq_true, Bool.true_eq_false, reduceCtorEq, false_iff, true_iff, iff_true, iff_false, and_true, true_and, and_false, false_and, reduceIte, ite_true, ite_false, eq_self] at *)) <;> omega), trivial⟩ rfl
        exact hi8 _ _ _ ⟨Fs2, (khi4_0), (by first | assumption | (((try simp only [vp_in_iff, Int32.lt_iff_toInt_lt, Int32.le_iff_toInt_le, ← Int32.toInt_inj, Int32.reduceToInt, n_1, n_2, n_8, Int32.toNatClampNeg, Int64.lt_iff_toInt_lt, Int64.le_iff_toInt_le, ← Int64.toInt_inj, Int64.reduceToInt, Int32.toInt_toInt64, lg_cmp_ge, lg_cmp_le, lg_cmp_gt, lg_cmp_lt, lg_cmp_eq, Bool.false_eq_true, Bool.true_eq_false, reduceCtorEq, false_iff, true_iff, iff_true, iff_false, and_true, true_and, and_false, false_and, reduceIte, ite_true, ite_false, eq_self] at *)) <;> omega)), (by ((try simp only [vp_in_iff, Int32.lt_iff_toInt_lt, Int32.le_iff_toInt_le, ← Int32.toInt_inj, Int32.reduceToInt, n_1, n_2, n_8, Int32.toNatClampNeg, Int64.lt_iff_toInt_lt, Int64.le_iff_toInt_le, ← Int64.toInt_inj, Int64.reduceToInt, Int32.toInt_toInt64, lg_cmp_ge, lg_cmp_le, lg_cmp_gt, lg_cmp_lt, lg_cmp_eq, Bool.false_eq_true, Bool.true_eq_false, reduceCtorEq, false_iff, true_iff, iff_true, iff_false, and_true, true_and, and_false, false_and, reduceIte, ite_true, ite_false, eq_self] at *)) <;> omega), (by first | assumption | (((try simp only [vp_in_iff, Int32.lt_iff_toInt_lt, Int32.le_iff_toInt_le, ← Int32.toInt_inj, Int32.reduceToInt, n_1, n_2, n_8, Int32.toNatClampNeg, Int64.lt_iff_toInt_lt, Int64.le_iff_toInt_le, ← Int64.toInt_inj, Int64.reduceToInt, Int32.toInt_toInt64, lg_cmp_ge, lg_cmp_le, lg_cmp_gt, lg_cmp_lt, lg_cmp_eq, Bool.false_eq_true, Bool.true_eq_false, reduceCtorEq, false_iff, true_iff, iff_true, iff_false, and_true, true_and, and_false, false_and, reduceIte, ite_true, ite_false, eq_self] at *)) <;> omega)), (by first | assumption | (((try simp only [vp_in_iff, Int32.lt_iff_toInt_lt, Int32.le_iff_toInt_le, ← Int32.toInt_inj, Int32.reduceToInt, n_1, n_2, n_8, Int32.toNatClampNeg, Int64.lt_iff_toInt_lt, Int64.le_iff_toInt_le, ← Int64.toInt_inj, Int64.reduceToInt, Int32.toInt_toInt64, lg_cmp_ge, lg_cmp_le, lg_cmp_gt, lg_cmp_lt, lg_cmp_eq, Bool.false_eq_true, Bool.true_eq_false, reduceCtorEq, false_iff, true_iff, iff_true, iff_false, and_true, true_and, and_false, false_and, reduceIte, ite_true, ite_false, eq_self] at *)) <;> omega)), trivial⟩ rfl
  exact hi4 _ _ _ ⟨Fs1, (nxk_gi_si hs1 (by decide)), (by ((try simp only [vp_in_iff, Int32.lt_iff_toInt_lt, Int32.le_iff_toInt_le, ← Int32.toInt_inj, Int32.reduceToInt, n_1, n_2, n_8, Int32.toNatClampNeg, Int64.lt_iff_toInt_lt, Int64.le_iff_toInt_le, ← Int64.toInt_inj, Int64.reduceToInt, Int32.toInt_toInt64, lg_cmp_ge, lg_cmp_le, lg_cmp_gt, lg_cmp_lt, lg_cmp_eq, Bool.false_eq_true, Bool.true_eq_false, reduceCtorEq, false_iff, true_iff, iff_true, iff_false, and_true, true_and, and_false, false_and, reduceIte, ite_true, ite_false, eq_self] at *)) <;> omega), (by rw [nxe_gi_si hs1]; first | assumption | (((try simp only [vp_in_iff, Int32.lt_iff_toInt_lt, Int32.le_iff_toInt_le, ← Int32.toInt_inj, Int32.reduceToInt, n_1, n_2, n_8, Int32.toNatClampNeg, Int64.lt_iff_toInt_lt, Int64.le_iff_toInt_le, ← Int64.toInt_inj, Int64.reduceToInt, Int32.toInt_toInt64, lg_cmp_ge, lg_cmp_le, lg_cmp_gt, lg_cmp_lt, lg_cmp_eq, Bool.false_eq_true, Bool.true_eq_false, reduceCtorEq, false_iff, true_iff, iff_true, iff_false, and_true, true_and, and_false, false_and, reduceIte, ite_true, ite_false, eq_self] at *)) <;> omega)), (by rw [nxe_gi_si hs1]; first | assumption | (((try simp only [vp_in_iff, Int32.lt_iff_toInt_lt, Int32.le_iff_toInt_le, ← Int32.toInt_inj, Int32.reduceToInt, n_1, n_2, n_8, Int32.toNatClampNeg, Int64.lt_iff_toInt_lt, Int64.le_iff_toInt_le, ← Int64.toInt_inj, Int64.reduceToInt, Int32.toInt_toInt64, lg_cmp_ge, lg_cmp_le, lg_cmp_gt, lg_cmp_lt, lg_cmp_eq, Bool.false_eq_true, Bool.true_eq_false, reduceCtorEq, false_iff, true_iff, iff_true, iff_false, and_true, true_and, and_false, false_and, reduceIte, ite_true, ite_false, eq_self] at *)) <;> omega)), trivial⟩ rfl
set_option maxHeartbeats 4000000 in
theorem sp_X12_factor (G : kG9) {d : Nat} (hd : 0 ≤ d) (σ : St) (a0 : Int32) (a1 : Int32) : Ct G M_X12_factor d [.ref 84, .int a0, .int a1] σ (fun r σ' => ∃ x : Int64, r = some (.long x) ∧ σ = σ' ∧ True) := by
  refine wa_start (by decide) rfl (Nat.le_of_ble_eq_true rfl) (lv := [(0, .ref 84), (1, .int a0), (2, .int a1)]) rfl o_X12_factor_0 rfl ?_
  have ua0 := Int32.toInt_lt a0
  have wa0 := Int32.le_toInt a0
  have ua1 := Int32.toInt_lt a1
  have wa1 := Int32.le_toInt a1
  refine wa_iload_n (i := 1) rfl rfl ?_
  refine wa_aload_n (i := 0) rfl rfl ?_
  refine wa_geti ck_12 fl_12_1067 ly_84 ?_
  refine wa_icmp_ge o_X12_factor_19 (by decide) (fun h1 => ?_) (fun h1 => ?_)
  · refine wa_iload_n (i := 1) rfl rfl ?_
    refine wa_aload_n (i := 0) rfl rfl ?_
    refine wa_geti ck_12 fl_12_1067 ly_84 ?_
    refine wa_isub ?_
    refine wa_top (fun v2 hv2 => ?_)
    have tv2 := i_subT hv2
    clear hv2
    refine wa_istore_nD (lv' := [(3, .int v2), (0, .ref 84), (1, .int a0), (2, .int a1)]) (i := 3) rfl (by decide) rfl ?_
    refine wa_iload_n (i := 3) rfl rfl ?_
    refine wa_iconst (v := 2) (by decide) ?_
    refine wa_idiv (by ((try simp only [vp_in_iff, Int32.lt_iff_toInt_lt, Int32.le_iff_toInt_le, ← Int32.toInt_inj, Int32.reduceToInt, n_1, n_2, n_8, Int32.toNatClampNeg, Int64.lt_iff_toInt_lt, Int64.le_iff_toInt_le, ← Int64.toInt_inj, Int64.reduceToInt, Int32.toInt_toInt64, lg_cmp_ge, lg_cmp_le, lg_cmp_gt, lg_cmp_lt, lg_cmp_eq, Bool.false_eq_true, Bool.true_eq_false, reduceCtorEq, false_iff, true_iff, iff_true, iff_false, and_true, true_and, and_false, false_and, reduceIte, ite_true, ite_false, eq_self] at *)) <;> omega) ?_
    refine wa_top (fun v3 hv3 => ?_)
    have tv3 := i_divU hv3
    clear hv3
    refine wa_iload_n (i := 2) rfl rfl ?_
    refine wa_icmp_ne o_X12_factor_49 (by decide) (fun h4 => ?_) (fun h4 => ?_)
    · refine wa_lconst (v := 0) (by decide) ?_
      refine wa_lreturn rfl rfl ?_
      exact ⟨_, rfl, rfl, trivial⟩
    · refine wa_iload_n (i := 3) rfl rfl ?_
      refine wa_iconst (v := 2) (by decide) ?_
      refine wa_irem (by ((try simp only [vp_in_iff, Int32.lt_iff_toInt_lt, Int32.le_iff_toInt_le, ← Int32.toInt_inj, Int32.reduceToInt, n_1, n_2, n_8, Int32.toNatClampNeg, Int64.lt_iff_toInt_lt, Int64.le_iff_toInt_le, ← Int64.toInt_inj, Int64.reduceToInt, Int32.toInt_toInt64, lg_cmp_ge, lg_cmp_le, lg_cmp_gt, lg_cmp_lt, lg_cmp_eq, Bool.false_eq_true, Bool.true_eq_false, reduceCtorEq, false_iff, true_iff, iff_true, iff_false, and_true, true_and, and_false, false_and, reduceIte, ite_true, ite_false, eq_self] at *)) <;> omega) ?_
      refine wa_top (fun v5 hv5 => ?_)
      have tv5 := i_remU hv5
      clear hv5
      refine wa_if_ne o_X12_factor_43 (by decide) (fun h6 => ?_) (fun h6 => ?_)
      · refine wa_ldc2 (v := (-1)) (allW_in (kT_12 _ (List.mem_of_getElem? (i := 97) rfl)) rfl) ?_
        refine wa_goto o_X12_factor_50 (by decide) ?_
        refine wa_lreturn rfl rfl ?_
        exact ⟨_, rfl, rfl, trivial⟩
      · refine wa_lconst (v := 1) (by decide) ?_
        refine wa_goto o_X12_factor_50 (by decide) ?_
        refine wa_lreturn rfl rfl ?_
        exact ⟨_, rfl, rfl, trivial⟩
  · have mh1 := nle_mx h1
    refine wa_aload_n (i := 0) rfl rfl ?_
    refine wa_getr ck_12 fl_12_394 ly_84 rf_84_158 ?_
    refine wa_iconst (v := 4) (by decide) ?_
    refine wa_iload_n (i := 1) rfl rfl ?_
    refine wa_imul ?_
    refine wa_top (fun v7 hv7 => ?_)
    have tv7 := i_mulT hv7
    clear hv7
    refine wa_iload_n (i := 2) rfl rfl ?_
    refine wa_iadd ?_
    refine wa_top (fun v8 hv8 => ?_)
    have tv8 := i_addT hv8
    clear hv8
    refine wa_lald ly_105 (by ((try simp only [vp_in_iff, Int32.lt_iff_toInt_lt, Int32.le_iff_toInt_le, ← Int32.toInt_inj, Int32.reduceToInt, n_1, n_2, n_8, Int32.toNatClampNeg, Int64.lt_iff_toInt_lt, Int64.le_iff_toInt_le, ← Int64.toInt_inj, Int64.reduceToInt, Int32.toInt_toInt64, lg_cmp_ge, lg_cmp_le, lg_cmp_gt, lg_cmp_lt, lg_cmp_eq, Bool.false_eq_true, Bool.true_eq_false, reduceCtorEq, false_iff, true_iff, iff_true, iff_false, and_true, true_and, and_false, false_and, reduceIte, ite_true, ite_false, eq_self] at *)) <;> omega) ?_
    refine wa_lreturn rfl rfl ?_
    exact ⟨_, rfl, rfl, trivial⟩
set_option maxHeartbeats 4000000 in
theorem sp_X12_two (G : kG9) {d : Nat} (hd : 0 ≤ d) (σ : St) (a0 : Int64) (a1 : Int64) (a2 : Int64) (a3 : Int64) : Ct G M_X12_two d [.long a0, .long a1, .long a2, .long a3] σ (fun r σ' => ∃ x : Int64, r = some (.long x) ∧ σ = σ' ∧ True) := by
  refine wa_start (by decide) rfl (Nat.le_of_ble_eq_true rfl) (lv := [(0, .long a0), (2, .long a1), (4, .long a2), (6, .long a3)]) rfl o_X12_two_0 rfl ?_
  refine wa_lload_n (i := 0) rfl rfl ?_
  refine wa_lload rfl ?_
  refine wa_lmul ?_
  refine wa_topl (fun v1 hv1 => ?_)
  have tv1 := m_l_remU hv1
  clear hv1
  refine wa_lload_n (i := 2) rfl rfl ?_
  refine wa_lload rfl ?_
  refine wa_lmul ?_
  refine wa_topl (fun v2 hv2 => ?_)
  have tv2 := m_l_remU hv2
  clear hv2
  refine wa_lsub ?_
  refine wa_topl (fun v3 hv3 => ?_)
  have tv3 := s_l_remU hv3
  clear hv3
  refine wa_lreturn rfl rfl ?_
  exact ⟨_, rfl, rfl, trivial⟩
set_option maxHeartbeats 4000000 in
theorem sp_X12_three (G : kG9) {d : Nat} (hd : 1 ≤ d) (σ : St) (a0 : Int32) (a1 : Int32) (a2 : Int32) (a3 : Int32) (a4 : Int32) (a5 : Int32) : Ct G M_X12_three d [.ref 84, .int a0, .int a1, .int a2, .int a3, .int a4, .int a5] σ (fun r σ' => ∃ x : Int64, r = some (.long x) ∧ σ = σ' ∧ True) := by
  refine wa_start (by decide) rfl (Nat.le_of_ble_eq_true rfl) (lv := [(0, .ref 84), (1, .int a0), (2, .int a1), (3, .int a2), (4, .int a3), (5, .int a4), (6, .int a5)]) rfl o_X12_three_0 rfl ?_
  have ua0 := Int32.toInt_lt a0
  have wa0 := Int32.le_toInt a0
  have ua1 := Int32.toInt_lt a1
  have wa1 := Int32.le_toInt a1
  have ua2 := Int32.toInt_lt a2
  have wa2 := Int32.le_toInt a2
  have ua3 := Int32.toInt_lt a3
  have wa3 := Int32.le_toInt a3
  have ua4 := Int32.toInt_lt a4
  have wa4 := Int32.le_toInt a4
  have ua5 := Int32.toInt_lt a5
  have wa5 := Int32.le_toInt a5
  refine wa_aload_n (i := 0) rfl rfl ?_
  refine wa_getr ck_12 fl_12_403 ly_84 rf_84_163 ?_
  refine wa_iconst (v := 4) (by decide) ?_
  refine wa_iload_n (i := 1) rfl rfl ?_
  refine wa_imul ?_
  refine wa_top (fun v1 hv1 => ?_)
  have tv1 := i_mulT hv1
  clear hv1
  refine wa_iload rfl ?_
  refine wa_iadd ?_
  refine wa_top (fun v2 hv2 => ?_)
  have tv2 := i_addT hv2
  clear hv2
  refine wa_lald ly_102 (by ((try simp only [vp_in_iff, Int32.lt_iff_toInt_lt, Int32.le_iff_toInt_le, ← Int32.toInt_inj, Int32.reduceToInt, n_1, n_2, n_8, Int32.toNatClampNeg, Int64.lt_iff_toInt_lt, Int64.le_iff_toInt_le, ← Int64.toInt_inj, Int64.reduceToInt, Int32.toInt_toInt64, lg_cmp_ge, lg_cmp_le, lg_cmp_gt, lg_cmp_lt, lg_cmp_eq, Bool.false_eq_true, Bool.true_eq_false, reduceCtorEq, false_iff, true_iff, iff_true, iff_false, and_true, true_and, and_false, false_and, reduceIte, ite_true, ite_false, eq_self] at *)) <;> omega) ?_
  refine wa_aload_n (i := 0) rfl rfl ?_
  refine wa_getr ck_12 fl_12_403 ly_84 rf_84_163 ?_
  refine wa_iconst (v := 4) (by decide) ?_
  refine wa_iload_n (i := 2) rfl rfl ?_
  refine wa_imul ?_
  refine wa_top (fun v3 hv3 => ?_)
  have tv3 := i_mulT hv3
  clear hv3
  refine wa_iload rfl ?_
  refine wa_iadd ?_
  refine wa_top (fun v4 hv4 => ?_)
  have tv4 := i_addT hv4
  clear hv4
  refine wa_lald ly_102 (by ((try simp only [vp_in_iff, Int32.lt_iff_toInt_lt, Int32.le_iff_toInt_le, ← Int32.toInt_inj, Int32.reduceToInt, n_1, n_2, n_8, Int32.toNatClampNeg, Int64.lt_iff_toInt_lt, Int64.le_iff_toInt_le, ← Int64.toInt_inj, Int64.reduceToInt, Int32.toInt_toInt64, lg_cmp_ge, lg_cmp_le, lg_cmp_gt, lg_cmp_lt, lg_cmp_eq, Bool.false_eq_true, Bool.true_eq_false, reduceCtorEq, false_iff, true_iff, iff_true, iff_false, and_true, true_and, and_false, false_and, reduceIte, ite_true, ite_false, eq_self] at *)) <;> omega) ?_
  refine wa_aload_n (i := 0) rfl rfl ?_
  refine wa_getr ck_12 fl_12_403 ly_84 rf_84_163 ?_
  refine wa_iconst (v := 4) (by decide) ?_
  refine wa_iload_n (i := 2) rfl rfl ?_
  refine wa_imul ?_
  refine wa_top (fun v5 hv5 => ?_)
  have tv5 := i_mulT hv5
  clear hv5
  refine wa_iload rfl ?_
  refine wa_iadd ?_
  refine wa_top (fun v6 hv6 => ?_)
  have tv6 := i_addT hv6
  clear hv6
  refine wa_lald ly_102 (by ((try simp only [vp_in_iff, Int32.lt_iff_toInt_lt, Int32.le_iff_toInt_le, ← Int32.toInt_inj, Int32.reduceToInt, n_1, n_2, n_8, Int32.toNatClampNeg, Int64.lt_iff_toInt_lt, Int64.le_iff_toInt_le, ← Int64.toInt_inj, Int64.reduceToInt, Int32.toInt_toInt64, lg_cmp_ge, lg_cmp_le, lg_cmp_gt, lg_cmp_lt, lg_cmp_eq, Bool.false_eq_true, Bool.true_eq_false, reduceCtorEq, false_iff, true_iff, iff_true, iff_false, and_true, true_and, and_false, false_and, reduceIte, ite_true, ite_false, eq_self] at *)) <;> omega) ?_
  refine wa_aload_n (i := 0) rfl rfl ?_
  refine wa_getr ck_12 fl_12_403 ly_84 rf_84_163 ?_
  refine wa_iconst (v := 4) (by decide) ?_
  refine wa_iload_n (i := 3) rfl rfl ?_
  refine wa_imul ?_
  refine wa_top (fun v7 hv7 => ?_)
  have tv7 := i_mulT hv7
  clear hv7
  refine wa_iload rfl ?_
  refine wa_iadd ?_
  refine wa_top (fun v8 hv8 => ?_)
  have tv8 := i_addT hv8
  clear hv8
  refine wa_lald ly_102 (by ((try simp only [vp_in_iff, Int32.lt_iff_toInt_lt, Int32.le_iff_toInt_le, ← Int32.toInt_inj, Int32.reduceToInt, n_1, n_2, n_8, Int32.toNatClampNeg, Int64.lt_iff_toInt_lt, Int64.le_iff_toInt_le, ← Int64.toInt_inj, Int64.reduceToInt, Int32.toInt_toInt64, lg_cmp_ge, lg_cmp_le, lg_cmp_gt, lg_cmp_lt, lg_cmp_eq, Bool.false_eq_true, Bool.true_eq_false, reduceCtorEq, false_iff, true_iff, iff_true, iff_false, and_true, true_and, and_false, false_and, reduceIte, ite_true, ite_false, eq_self] at *)) <;> omega) ?_
  refine wa_aload_n (i := 0) rfl rfl ?_
  refine wa_getr ck_12 fl_12_403 ly_84 rf_84_163 ?_
  refine wa_iconst (v := 4) (by decide) ?_
  refine wa_iload_n (i := 3) rfl rfl ?_
  refine wa_imul ?_
  refine wa_top (fun v9 hv9 => ?_)
  have tv9 := i_mulT hv9
  clear hv9
  refine wa_iload rfl ?_
  refine wa_iadd ?_
  refine wa_top (fun v10 hv10 => ?_)
  have tv10 := i_addT hv10
  clear hv10
  refine wa_lald ly_102 (by ((try simp only [vp_in_iff, Int32.lt_iff_toInt_lt, Int32.le_iff_toInt_le, ← Int32.toInt_inj, Int32.reduceToInt, n_1, n_2, n_8, Int32.toNatClampNeg, Int64.lt_iff_toInt_lt, Int64.le_iff_toInt_le, ← Int64.toInt_inj, Int64.reduceToInt, Int32.toInt_toInt64, lg_cmp_ge, lg_cmp_le, lg_cmp_gt, lg_cmp_lt, lg_cmp_eq, Bool.false_eq_true, Bool.true_eq_false, reduceCtorEq, false_iff, true_iff, iff_true, iff_false, and_true, true_and, and_false, false_and, reduceIte, ite_true, ite_false, eq_self] at *)) <;> omega) ?_
  refine wa_Sl (d9 := d - 1) [.long _, .long _, .long _, .long _] [.long (gl σ 102 (v2).toNatClampNeg)] (sp_X12_two G (d := d - 1) (by omega) σ _ _ _ _) (rfl) rfl rfl (zr (by omega)) mk_X12_two ml_12_1079 (Nat.le_of_ble_eq_true rfl) (fun x12 s11 hs11 => ?_)
  obtain ⟨zs11, -⟩ := pL hs11
  subst zs11
  refine wa_lmul ?_
  refine wa_topl (fun v13 hv13 => ?_)
  have tv13 := m_l_remU hv13
  clear hv13
  refine wa_lstoreD (lv' := [(7, .long v13), (0, .ref 84), (1, .int a0), (2, .int a1), (3, .int a2), (4, .int a3), (5, .int a4), (6, .int a5)]) (by decide) rfl ?_
  refine wa_aload_n (i := 0) rfl rfl ?_
  refine wa_getr ck_12 fl_12_403 ly_84 rf_84_163 ?_
  refine wa_iconst (v := 4) (by decide) ?_
  refine wa_iload_n (i := 1) rfl rfl ?_
  refine wa_imul ?_
  refine wa_top (fun v14 hv14 => ?_)
  have tv14 := i_mulT hv14
  clear hv14
  refine wa_iload rfl ?_
  refine wa_iadd ?_
  refine wa_top (fun v15 hv15 => ?_)
  have tv15 := i_addT hv15
  clear hv15
  refine wa_lald ly_102 (by ((try simp only [vp_in_iff, Int32.lt_iff_toInt_lt, Int32.le_iff_toInt_le, ← Int32.toInt_inj, Int32.reduceToInt, n_1, n_2, n_8, Int32.toNatClampNeg, Int64.lt_iff_toInt_lt, Int64.le_iff_toInt_le, ← Int64.toInt_inj, Int64.reduceToInt, Int32.toInt_toInt64, lg_cmp_ge, lg_cmp_le, lg_cmp_gt, lg_cmp_lt, lg_cmp_eq, Bool.false_eq_true, Bool.true_eq_false, reduceCtorEq, false_iff, true_iff, iff_true, iff_false, and_true, true_and, and_false, false_and, reduceIte, ite_true, ite_false, eq_self] at *)) <;> omega) ?_
  refine wa_aload_n (i := 0) rfl rfl ?_
  refine wa_getr ck_12 fl_12_403 ly_84 rf_84_163 ?_
  refine wa_iconst (v := 4) (by decide) ?_
  refine wa_iload_n (i := 2) rfl rfl ?_
  refine wa_imul ?_
  refine wa_top (fun v16 hv16 => ?_)
  have tv16 := i_mulT hv16
  clear hv16
  refine wa_iload rfl ?_
  refine wa_iadd ?_
  refine wa_top (fun v17 hv17 => ?_)
  have tv17 := i_addT hv17
  clear hv17
  refine wa_lald ly_102 (by ((try simp only [vp_in_iff, Int32.lt_iff_toInt_lt, Int32.le_iff_toInt_le, ← Int32.toInt_inj, Int32.reduceToInt, n_1, n_2, n_8, Int32.toNatClampNeg, Int64.lt_iff_toInt_lt, Int64.le_iff_toInt_le, ← Int64.toInt_inj, Int64.reduceToInt, Int32.toInt_toInt64, lg_cmp_ge, lg_cmp_le, lg_cmp_gt, lg_cmp_lt, lg_cmp_eq, Bool.false_eq_true, Bool.true_eq_false, reduceCtorEq, false_iff, true_iff, iff_true, iff_false, and_true, true_and, and_false, false_and, reduceIte, ite_true, ite_false, eq_self] at *)) <;> omega) ?_
  refine wa_aload_n (i := 0) rfl rfl ?_
  refine wa_getr ck_12 fl_12_403 ly_84 rf_84_163 ?_
  refine wa_iconst (v := 4) (by decide) ?_
  refine wa_iload_n (i := 2) rfl rfl ?_
  refine wa_imul ?_
  refine wa_top (fun v18 hv18 => ?_)
  have tv18 := i_mulT hv18
  clear hv18
  refine wa_iload rfl ?_
  refine wa_iadd ?_
  refine wa_top (fun v19 hv19 => ?_)
  have tv19 := i_addT hv19
  clear hv19
  refine wa_lald ly_102 (by ((try simp only [vp_in_iff, Int32.lt_iff_toInt_lt, Int32.le_iff_toInt_le, ← Int32.toInt_inj, Int32.reduceToInt, n_1, n_2, n_8, Int32.toNatClampNeg, Int64.lt_iff_toInt_lt, Int64.le_iff_toInt_le, ← Int64.toInt_inj, Int64.reduceToInt, Int32.toInt_toInt64, lg_cmp_ge, lg_cmp_le, lg_cmp_gt, lg_cmp_lt, lg_cmp_eq, Bool.false_eq_true, Bool.true_eq_false, reduceCtorEq, false_iff, true_iff, iff_true, iff_false, and_true, true_and, and_false, false_and, reduceIte, ite_true, ite_false, eq_self] at *)) <;> omega) ?_
  refine wa_aload_n (i := 0) rfl rfl ?_
  refine wa_getr ck_12 fl_12_403 ly_84 rf_84_163 ?_
  refine wa_iconst (v := 4) (by decide) ?_
  refine wa_iload_n (i := 3) rfl rfl ?_
  refine wa_imul ?_
  refine wa_top (fun v20 hv20 => ?_)
  have tv20 := i_mulT hv20
  clear hv20
  refine wa_iload rfl ?_
  refine wa_iadd ?_
  refine wa_top (fun v21 hv21 => ?_)
  have tv21 := i_addT hv21
  clear hv21
  refine wa_lald ly_102 (by ((try simp only [vp_in_iff, Int32.lt_iff_toInt_lt, Int32.le_iff_toInt_le, ← Int32.toInt_inj, Int32.reduceToInt, n_1, n_2, n_8, Int32.toNatClampNeg, Int64.lt_iff_toInt_lt, Int64.le_iff_toInt_le, ← Int64.toInt_inj, Int64.reduceToInt, Int32.toInt_toInt64, lg_cmp_ge, lg_cmp_le, lg_cmp_gt, lg_cmp_lt, lg_cmp_eq, Bool.false_eq_true, Bool.true_eq_false, reduceCtorEq, false_iff, true_iff, iff_true, iff_false, and_true, true_and, and_false, false_and, reduceIte, ite_true, ite_false, eq_self] at *)) <;> omega) ?_
  refine wa_aload_n (i := 0) rfl rfl ?_
  refine wa_getr ck_12 fl_12_403 ly_84 rf_84_163 ?_
  refine wa_iconst (v := 4) (by decide) ?_
  refine wa_iload_n (i := 3) rfl rfl ?_
  refine wa_imul ?_
  refine wa_top (fun v22 hv22 => ?_)
  have tv22 := i_mulT hv22
  clear hv22
  refine wa_iload rfl ?_
  refine wa_iadd ?_
  refine wa_top (fun v23 hv23 => ?_)
  have tv23 := i_addT hv23
  clear hv23
  refine wa_lald ly_102 (by ((try simp only [vp_in_iff, Int32.lt_iff_toInt_lt, Int32.le_iff_toInt_le, ← Int32.toInt_inj, Int32.reduceToInt, n_1, n_2, n_8, Int32.toNatClampNeg, Int64.lt_iff_toInt_lt, Int64.le_iff_toInt_le, ← Int64.toInt_inj, Int64.reduceToInt, Int32.toInt_toInt64, lg_cmp_ge, lg_cmp_le, lg_cmp_gt, lg_cmp_lt, lg_cmp_eq, Bool.false_eq_true, Bool.true_eq_false, reduceCtorEq, false_iff, true_iff, iff_true, iff_false, and_true, true_and, and_false, false_and, reduceIte, ite_true, ite_false, eq_self] at *)) <;> omega) ?_
  refine wa_Sl (d9 := d - 1) [.long _, .long _, .long _, .long _] [.long (gl σ 102 (v15).toNatClampNeg)] (sp_X12_two G (d := d - 1) (by omega) σ _ _ _ _) (rfl) rfl rfl (zr (by omega)) mk_X12_two ml_12_1079 (Nat.le_of_ble_eq_true rfl) (fun x25 s24 hs24 => ?_)
  obtain ⟨zs24, -⟩ := pL hs24
  subst zs24
  refine wa_lmul ?_
  refine wa_topl (fun v26 hv26 => ?_)
  have tv26 := m_l_remU hv26
  clear hv26
  refine wa_lstoreD (lv' := [(9, .long v26), (7, .long v13), (0, .ref 84), (1, .int a0), (2, .int a1), (3, .int a2), (4, .int a3), (5, .int a4), (6, .int a5)]) (by decide) rfl ?_
  refine wa_aload_n (i := 0) rfl rfl ?_
  refine wa_getr ck_12 fl_12_403 ly_84 rf_84_163 ?_
  refine wa_iconst (v := 4) (by decide) ?_
  refine wa_iload_n (i := 1) rfl rfl ?_
  refine wa_imul ?_
  refine wa_top (fun v27 hv27 => ?_)
  have tv27 := i_mulT hv27
  clear hv27
  refine wa_iload rfl ?_
  refine wa_iadd ?_
  refine wa_top (fun v28 hv28 => ?_)
  have tv28 := i_addT hv28
  clear hv28
  refine wa_lald ly_102 (by ((try simp only [vp_in_iff, Int32.lt_iff_toInt_lt, Int32.le_iff_toInt_le, ← Int32.toInt_inj, Int32.reduceToInt, n_1, n_2, n_8, Int32.toNatClampNeg, Int64.lt_iff_toInt_lt, Int64.le_iff_toInt_le, ← Int64.toInt_inj, Int64.reduceToInt, Int32.toInt_toInt64, lg_cmp_ge, lg_cmp_le, lg_cmp_gt, lg_cmp_lt, lg_cmp_eq, Bool.false_eq_true, Bool.true_eq_false, reduceCtorEq, false_iff, true_iff, iff_true, iff_false, and_true, true_and, and_false, false_and, reduceIte, ite_true, ite_false, eq_self] at *)) <;> omega) ?_
  refine wa_aload_n (i := 0) rfl rfl ?_
  refine wa_getr ck_12 fl_12_403 ly_84 rf_84_163 ?_
  refine wa_iconst (v := 4) (by decide) ?_
  refine wa_iload_n (i := 2) rfl rfl ?_
  refine wa_imul ?_
  refine wa_top (fun v29 hv29 => ?_)
  have tv29 := i_mulT hv29
  clear hv29
  refine wa_iload rfl ?_
  refine wa_iadd ?_
  refine wa_top (fun v30 hv30 => ?_)
  have tv30 := i_addT hv30
  clear hv30
  refine wa_lald ly_102 (by ((try simp only [vp_in_iff, Int32.lt_iff_toInt_lt, Int32.le_iff_toInt_le, ← Int32.toInt_inj, Int32.reduceToInt, n_1, n_2, n_8, Int32.toNatClampNeg, Int64.lt_iff_toInt_lt, Int64.le_iff_toInt_le, ← Int64.toInt_inj, Int64.reduceToInt, Int32.toInt_toInt64, lg_cmp_ge, lg_cmp_le, lg_cmp_gt, lg_cmp_lt, lg_cmp_eq, Bool.false_eq_true, Bool.true_eq_false, reduceCtorEq, false_iff, true_iff, iff_true, iff_false, and_true, true_and, and_false, false_and, reduceIte, ite_true, ite_false, eq_self] at *)) <;> omega) ?_
  refine wa_aload_n (i := 0) rfl rfl ?_
  refine wa_getr ck_12 fl_12_403 ly_84 rf_84_163 ?_
  refine wa_iconst (v := 4) (by decide) ?_
  refine wa_iload_n (i := 2) rfl rfl ?_
  refine wa_imul ?_
  refine wa_top (fun v31 hv31 => ?_)
  have tv31 := i_mulT hv31
  clear hv31
  refine wa_iload rfl ?_
  refine wa_iadd ?_
  refine wa_top (fun v32 hv32 => ?_)
  have tv32 := i_addT hv32
  clear hv32
  refine wa_lald ly_102 (by ((try simp only [vp_in_iff, Int32.lt_iff_toInt_lt, Int32.le_iff_toInt_le, ← Int32.toInt_inj, Int32.reduceToInt, n_1, n_2, n_8, Int32.toNatClampNeg, Int64.lt_iff_toInt_lt, Int64.le_iff_toInt_le, ← Int64.toInt_inj, Int64.reduceToInt, Int32.toInt_toInt64, lg_cmp_ge, lg_cmp_le, lg_cmp_gt, lg_cmp_lt, lg_cmp_eq, Bool.false_eq_true, Bool.true_eq_false, reduceCtorEq, false_iff, true_iff, iff_true, iff_false, and_true, true_and, and_false, false_and, reduceIte, ite_true, ite_false, eq_self] at *)) <;> omega) ?_
  refine wa_aload_n (i := 0) rfl rfl ?_
  refine wa_getr ck_12 fl_12_403 ly_84 rf_84_163 ?_
  refine wa_iconst (v := 4) (by decide) ?_
  refine wa_iload_n (i := 3) rfl rfl ?_
  refine wa_imul ?_
  refine wa_top (fun v33 hv33 => ?_)
  have tv33 := i_mulT hv33
  clear hv33
  refine wa_iload rfl ?_
  refine wa_iadd ?_
  refine wa_top (fun v34 hv34 => ?_)
  have tv34 := i_addT hv34
  clear hv34
  refine wa_lald ly_102 (by ((try simp only [vp_in_iff, Int32.lt_iff_toInt_lt, Int32.le_iff_toInt_le, ← Int32.toInt_inj, Int32.reduceToInt, n_1, n_2, n_8, Int32.toNatClampNeg, Int64.lt_iff_toInt_lt, Int64.le_iff_toInt_le, ← Int64.toInt_inj, Int64.reduceToInt, Int32.toInt_toInt64, lg_cmp_ge, lg_cmp_le, lg_cmp_gt, lg_cmp_lt, lg_cmp_eq, Bool.false_eq_true, Bool.true_eq_false, reduceCtorEq, false_iff, true_iff, iff_true, iff_false, and_true, true_and, and_false, false_and, reduceIte, ite_true, ite_false, eq_self] at *)) <;> omega) ?_
  refine wa_aload_n (i := 0) rfl rfl ?_
  refine wa_getr ck_12 fl_12_403 ly_84 rf_84_163 ?_
  refine wa_iconst (v := 4) (by decide) ?_
  refine wa_iload_n (i := 3) rfl rfl ?_
  refine wa_imul ?_
  refine wa_top (fun v35 hv35 => ?_)
  have tv35 := i_mulT hv35
  clear hv35
  refine wa_iload rfl ?_
  refine wa_iadd ?_
  refine wa_top (fun v36 hv36 => ?_)
  have tv36 := i_addT hv36
  clear hv36
  refine wa_lald ly_102 (by ((try simp only [vp_in_iff, Int32.lt_iff_toInt_lt, Int32.le_iff_toInt_le, ← Int32.toInt_inj, Int32.reduceToInt, n_1, n_2, n_8, Int32.toNatClampNeg, Int64.lt_iff_toInt_lt, Int64.le_iff_toInt_le, ← Int64.toInt_inj, Int64.reduceToInt, Int32.toInt_toInt64, lg_cmp_ge, lg_cmp_le, lg_cmp_gt, lg_cmp_lt, lg_cmp_eq, Bool.false_eq_true, Bool.true_eq_false, reduceCtorEq, false_iff, true_iff, iff_true, iff_false, and_true, true_and, and_false, false_and, reduceIte, ite_true, ite_false, eq_self] at *)) <;> omega) ?_
  refine wa_Sl (d9 := d - 1) [.long _, .long _, .long _, .long _] [.long (gl σ 102 (v28).toNatClampNeg)] (sp_X12_two G (d := d - 1) (by omega) σ _ _ _ _) (rfl) rfl rfl (zr (by omega)) mk_X12_two ml_12_1079 (Nat.le_of_ble_eq_true rfl) (fun x38 s37 hs37 => ?_)
  obtain ⟨zs37, -⟩ := pL hs37
  subst zs37
  refine wa_lmul ?_
  refine wa_topl (fun v39 hv39 => ?_)
  have tv39 := m_l_remU hv39
  clear hv39
  refine wa_lstoreD (lv' := [(11, .long v39), (9, .long v26), (7, .long v13), (0, .ref 84), (1, .int a0), (2, .int a1), (3, .int a2), (4, .int a3), (5, .int a4), (6, .int a5)]) (by decide) rfl ?_
  refine wa_lload rfl ?_
  refine wa_lload rfl ?_
  refine wa_lsub ?_
  refine wa_topl (fun v40 hv40 => ?_)
  have tv40 := s_l_remU hv40
  clear hv40
  refine wa_lload rfl ?_
  refine wa_ladd ?_
  refine wa_topl (fun v41 hv41 => ?_)
  have tv41 := a_l_remU hv41
  clear hv41
  refine wa_lreturn rfl rfl ?_
  exact ⟨_, rfl, rfl, trivial⟩
set_option maxHeartbeats 4000000 in
theorem sp_X12_determinant (G : kG9) {d : Nat} (hd : 2 ≤ d) (σ : St) (r1 : 0 ≤ (gi σ 84 32).toInt ∧ (gi σ 84 32).toInt ≤ 4) : Ct G M_X12_determinant d [.ref 84] σ (fun r σ' => ∃ x : Int64, r = some (.long x) ∧ σ = σ' ∧ True) := by
  refine wa_start (by decide) rfl (Nat.le_of_ble_eq_true rfl) (lv := [(0, .ref 84)]) rfl o_X12_determinant_0 rfl ?_
  refine wa_aload_n (i := 0) rfl rfl ?_
  refine wa_geti ck_12 fl_12_815 ly_84 ?_
  refine wa_top (fun q1 hq1 => ?_)
  by_cases h2 : q1 = 0
  · refine wa_tIn (by rw [h2]; decide) (by rw [h2]; decide) (by rw [h2] <;> rfl) o_X12_determinant_36 (by decide) ?_
    refine wa_lconst (v := 1) (by decide) ?_
    refine wa_lreturn rfl rfl ?_
    exact ⟨_, rfl, rfl, trivial⟩
  ·
    by_cases h3 : q1 = 1
    · refine wa_tIn (by rw [h3]; decide) (by rw [h3]; decide) (by rw [h3] <;> rfl) o_X12_determinant_38 (by decide) ?_
      refine wa_aload_n (i := 0) rfl rfl ?_
      refine wa_getr ck_12 fl_12_403 ly_84 rf_84_163 ?_
      refine wa_iconst (v := 0) (by decide) ?_
      refine wa_lald ly_102 (by ((try simp only [vp_in_iff, Int32.lt_iff_toInt_lt, Int32.le_iff_toInt_le, ← Int32.toInt_inj, Int32.reduceToInt, n_1, n_2, n_8, Int32.toNatClampNeg, Int64.lt_iff_toInt_lt, Int64.le_iff_toInt_le, ← Int64.toInt_inj, Int64.reduceToInt, Int32.toInt_toInt64, lg_cmp_ge, lg_cmp_le, lg_cmp_gt, lg_cmp_lt, lg_cmp_eq, Bool.false_eq_true, Bool.true_eq_false, reduceCtorEq, false_iff, true_iff, iff_true, iff_false, and_true, true_and, and_false, false_and, reduceIte, ite_true, ite_false, eq_self] at *)) <;> omega) ?_
      refine wa_lreturn rfl rfl ?_
      exact ⟨_, rfl, rfl, trivial⟩
    ·
      by_cases h4 : q1 = 2
      · refine wa_tIn (by rw [h4]; decide) (by rw [h4]; decide) (by rw [h4] <;> rfl) o_X12_determinant_45 (by decide) ?_
        refine wa_aload_n (i := 0) rfl rfl ?_
        refine wa_getr ck_12 fl_12_403 ly_84 rf_84_163 ?_
        refine wa_iconst (v := 0) (by decide) ?_
        refine wa_lald ly_102 (by ((try simp only [vp_in_iff, Int32.lt_iff_toInt_lt, Int32.le_iff_toInt_le, ← Int32.toInt_inj, Int32.reduceToInt, n_1, n_2, n_8, Int32.toNatClampNeg, Int64.lt_iff_toInt_lt, Int64.le_iff_toInt_le, ← Int64.toInt_inj, Int64.reduceToInt, Int32.toInt_toInt64, lg_cmp_ge, lg_cmp_le, lg_cmp_gt, lg_cmp_lt, lg_cmp_eq, Bool.false_eq_true, Bool.true_eq_false, reduceCtorEq, false_iff, true_iff, iff_true, iff_false, and_true, true_and, and_false, false_and, reduceIte, ite_true, ite_false, eq_self] at *)) <;> omega) ?_
        refine wa_aload_n (i := 0) rfl rfl ?_
        refine wa_getr ck_12 fl_12_403 ly_84 rf_84_163 ?_
        refine wa_iconst (v := 1) (by decide) ?_
        refine wa_lald ly_102 (by ((try simp only [vp_in_iff, Int32.lt_iff_toInt_lt, Int32.le_iff_toInt_le, ← Int32.toInt_inj, Int32.reduceToInt, n_1, n_2, n_8, Int32.toNatClampNeg, Int64.lt_iff_toInt_lt, Int64.le_iff_toInt_le, ← Int64.toInt_inj, Int64.reduceToInt, Int32.toInt_toInt64, lg_cmp_ge, lg_cmp_le, lg_cmp_gt, lg_cmp_lt, lg_cmp_eq, Bool.false_eq_true, Bool.true_eq_false, reduceCtorEq, false_iff, true_iff, iff_true, iff_false, and_true, true_and, and_false, false_and, reduceIte, ite_true, ite_false, eq_self] at *)) <;> omega) ?_
        refine wa_aload_n (i := 0) rfl rfl ?_
        refine wa_getr ck_12 fl_12_403 ly_84 rf_84_163 ?_
        refine wa_iconst (v := 4) (by decide) ?_
        refine wa_lald ly_102 (by ((try simp only [vp_in_iff, Int32.lt_iff_toInt_lt, Int32.le_iff_toInt_le, ← Int32.toInt_inj, Int32.reduceToInt, n_1, n_2, n_8, Int32.toNatClampNeg, Int64.lt_iff_toInt_lt, Int64.le_iff_toInt_le, ← Int64.toInt_inj, Int64.reduceToInt, Int32.toInt_toInt64, lg_cmp_ge, lg_cmp_le, lg_cmp_gt, lg_cmp_lt, lg_cmp_eq, Bool.false_eq_true, Bool.true_eq_false, reduceCtorEq, false_iff, true_iff, iff_true, iff_false, and_true, true_and, and_false, false_and, reduceIte, ite_true, ite_false, eq_self] at *)) <;> omega) ?_
        refine wa_aload_n (i := 0) rfl rfl ?_
        refine wa_getr ck_12 fl_12_403 ly_84 rf_84_163 ?_
        refine wa_iconst (v := 5) (by decide) ?_
        refine wa_lald ly_102 (by ((try simp only [vp_in_iff, Int32.lt_iff_toInt_lt, Int32.le_iff_toInt_le, ← Int32.toInt_inj, Int32.reduceToInt, n_1, n_2, n_8, Int32.toNatClampNeg, Int64.lt_iff_toInt_lt, Int64.le_iff_toInt_le, ← Int64.toInt_inj, Int64.reduceToInt, Int32.toInt_toInt64, lg_cmp_ge, lg_cmp_le, lg_cmp_gt, lg_cmp_lt, lg_cmp_eq, Bool.false_eq_true, Bool.true_eq_false, reduceCtorEq, false_iff, true_iff, iff_true, iff_false, and_true, true_and, and_false, false_and, reduceIte, ite_true, ite_false, eq_self] at *)) <;> omega) ?_
        refine wa_Sl (d9 := d - 1) [.long _, .long _, .long _, .long _] [] (sp_X12_two G (d := d - 1) (by omega) σ _ _ _ _) (rfl) rfl rfl (zr (by omega)) mk_X12_two ml_12_1079 (Nat.le_of_ble_eq_true rfl) (fun x6 s5 hs5 => ?_)
        obtain ⟨zs5, -⟩ := pL hs5
        subst zs5
        refine wa_lreturn rfl rfl ?_
        exact ⟨_, rfl, rfl, trivial⟩
      ·
        by_cases h7 : q1 = 3
        · refine wa_tIn (by rw [h7]; decide) (by rw [h7]; decide) (by rw [h7] <;> rfl) o_X12_determinant_73 (by decide) ?_
          refine wa_aload_n (i := 0) rfl rfl ?_
          refine wa_iconst (v := 0) (by decide) ?_
          refine wa_iconst (v := 1) (by decide) ?_
          refine wa_iconst (v := 2) (by decide) ?_
          refine wa_iconst (v := 0) (by decide) ?_
          refine wa_iconst (v := 1) (by decide) ?_
          refine wa_iconst (v := 2) (by decide) ?_
          refine wa_Vl (d9 := d - 1) [.int _, .int _, .int _, .int _, .int _, .int _] [] (sp_X12_three G (d := d - 1) (by omega) σ _ _ _ _ _ _) (rfl) rfl rfl (zr (by omega)) mk_X12_three ly_84 ml_12_1083 (Nat.le_of_ble_eq_true rfl) (fun x9 s8 hs8 => ?_)
          obtain ⟨zs8, -⟩ := pL hs8
          subst zs8
          refine wa_lreturn rfl rfl ?_
          exact ⟨_, rfl, rfl, trivial⟩
        ·
          refine wa_tOut (by (try simp only [vp_in_iff, Int32.lt_iff_toInt_lt, Int32.le_iff_toInt_le, ← Int32.toInt_inj, Int32.reduceToInt, n_1, n_2, n_8, Int32.toNatClampNeg, Int64.lt_iff_toInt_lt, Int64.le_iff_toInt_le, ← Int64.toInt_inj, Int64.reduceToInt, Int32.toInt_toInt64, lg_cmp_ge, lg_cmp_le, lg_cmp_gt, lg_cmp_lt, lg_cmp_eq] at *) <;> omega) o_X12_determinant_84 (by decide) ?_
          refine wa_aload_n (i := 0) rfl rfl ?_
          refine wa_getr ck_12 fl_12_403 ly_84 rf_84_163 ?_
          refine wa_iconst (v := 0) (by decide) ?_
          refine wa_lald ly_102 (by ((try simp only [vp_in_iff, Int32.lt_iff_toInt_lt, Int32.le_iff_toInt_le, ← Int32.toInt_inj, Int32.reduceToInt, n_1, n_2, n_8, Int32.toNatClampNeg, Int64.lt_iff_toInt_lt, Int64.le_iff_toInt_le, ← Int64.toInt_inj, Int64.reduceToInt, Int32.toInt_toInt64, lg_cmp_ge, lg_cmp_le, lg_cmp_gt, lg_cmp_lt, lg_cmp_eq, Bool.false_eq_true, Bool.true_eq_false, reduceCtorEq, false_iff, true_iff, iff_true, iff_false, and_true, true_and, and_false, false_and, reduceIte, ite_true, ite_false, eq_self] at *)) <;> omega) ?_
          refine wa_aload_n (i := 0) rfl rfl ?_
          refine wa_iconst (v := 1) (by decide) ?_
          refine wa_iconst (v := 2) (by decide) ?_
          refine wa_iconst (v := 3) (by decide) ?_
          refine wa_iconst (v := 1) (by decide) ?_
          refine wa_iconst (v := 2) (by decide) ?_
          refine wa_iconst (v := 3) (by decide) ?_
          refine wa_Vl (d9 := d - 1) [.int _, .int _, .int _, .int _, .int _, .int _] [.long (gl σ 102 (0 : Int32).toNatClampNeg)] (sp_X12_three G (d := d - 1) (by omega) σ _ _ _ _ _ _) (rfl) rfl rfl (zr (by omega)) mk_X12_three ly_84 ml_12_1083 (Nat.le_of_ble_eq_true rfl) (fun x11 s10 hs10 => ?_)
          obtain ⟨zs10, -⟩ := pL hs10
          subst zs10
          refine wa_lmul ?_
          refine wa_topl (fun v12 hv12 => ?_)
          have tv12 := m_l_remU hv12
          clear hv12
          refine wa_aload_n (i := 0) rfl rfl ?_
          refine wa_getr ck_12 fl_12_403 ly_84 rf_84_163 ?_
          refine wa_iconst (v := 1) (by decide) ?_
          refine wa_lald ly_102 (by ((try simp only [vp_in_iff, Int32.lt_iff_toInt_lt, Int32.le_iff_toInt_le, ← Int32.toInt_inj, Int32.reduceToInt, n_1, n_2, n_8, Int32.toNatClampNeg, Int64.lt_iff_toInt_lt, Int64.le_iff_toInt_le, ← Int64.toInt_inj, Int64.reduceToInt, Int32.toInt_toInt64, lg_cmp_ge, lg_cmp_le, lg_cmp_gt, lg_cmp_lt, lg_cmp_eq, Bool.false_eq_true, Bool.true_eq_false, reduceCtorEq, false_iff, true_iff, iff_true, iff_false, and_true, true_and, and_false, false_and, reduceIte, ite_true, ite_false, eq_self] at *)) <;> omega) ?_
          refine wa_aload_n (i := 0) rfl rfl ?_
          refine wa_iconst (v := 1) (by decide) ?_
          refine wa_iconst (v := 2) (by decide) ?_
          refine wa_iconst (v := 3) (by decide) ?_
          refine wa_iconst (v := 0) (by decide) ?_
          refine wa_iconst (v := 2) (by decide) ?_
          refine wa_iconst (v := 3) (by decide) ?_
          refine wa_Vl (d9 := d - 1) [.int _, .int _, .int _, .int _, .int _, .int _] [.long (gl σ 102 (1 : Int32).toNatClampNeg), .long v12] (sp_X12_three G (d := d - 1) (by omega) σ _ _ _ _ _ _) (rfl) rfl rfl (zr (by omega)) mk_X12_three ly_84 ml_12_1083 (Nat.le_of_ble_eq_true rfl) (fun x14 s13 hs13 => ?_)
          obtain ⟨zs13, -⟩ := pL hs13
          subst zs13
          refine wa_lmul ?_
          refine wa_topl (fun v15 hv15 => ?_)
          have tv15 := m_l_remU hv15
          clear hv15
          refine wa_lsub ?_
          refine wa_topl (fun v16 hv16 => ?_)
          have tv16 := s_l_remU hv16
          clear hv16
          refine wa_aload_n (i := 0) rfl rfl ?_
          refine wa_getr ck_12 fl_12_403 ly_84 rf_84_163 ?_
          refine wa_iconst (v := 2) (by decide) ?_
          refine wa_lald ly_102 (by ((try simp only [vp_in_iff, Int32.lt_iff_toInt_lt, Int32.le_iff_toInt_le, ← Int32.toInt_inj, Int32.reduceToInt, n_1, n_2, n_8, Int32.toNatClampNeg, Int64.lt_iff_toInt_lt, Int64.le_iff_toInt_le, ← Int64.toInt_inj, Int64.reduceToInt, Int32.toInt_toInt64, lg_cmp_ge, lg_cmp_le, lg_cmp_gt, lg_cmp_lt, lg_cmp_eq, Bool.false_eq_true, Bool.true_eq_false, reduceCtorEq, false_iff, true_iff, iff_true, iff_false, and_true, true_and, and_false, false_and, reduceIte, ite_true, ite_false, eq_self] at *)) <;> omega) ?_
          refine wa_aload_n (i := 0) rfl rfl ?_
          refine wa_iconst (v := 1) (by decide) ?_
          refine wa_iconst (v := 2) (by decide) ?_
          refine wa_iconst (v := 3) (by decide) ?_
          refine wa_iconst (v := 0) (by decide) ?_
          refine wa_iconst (v := 1) (by decide) ?_
          refine wa_iconst (v := 3) (by decide) ?_
          refine wa_Vl (d9 := d - 1) [.int _, .int _, .int _, .int _, .int _, .int _] [.long (gl σ 102 (2 : Int32).toNatClampNeg), .long v16] (sp_X12_three G (d := d - 1) (by omega) σ _ _ _ _ _ _) (rfl) rfl rfl (zr (by omega)) mk_X12_three ly_84 ml_12_1083 (Nat.le_of_ble_eq_true rfl) (fun x18 s17 hs17 => ?_)
          obtain ⟨zs17, -⟩ := pL hs17
          subst zs17
          refine wa_lmul ?_
          refine wa_topl (fun v19 hv19 => ?_)
          have tv19 := m_l_remU hv19
          clear hv19
          refine wa_ladd ?_
          refine wa_topl (fun v20 hv20 => ?_)
          have tv20 := a_l_remU hv20
          clear hv20
          refine wa_aload_n (i := 0) rfl rfl ?_
          refine wa_getr ck_12 fl_12_403 ly_84 rf_84_163 ?_
          refine wa_iconst (v := 3) (by decide) ?_
          refine wa_lald ly_102 (by ((try simp only [vp_in_iff, Int32.lt_iff_toInt_lt, Int32.le_iff_toInt_le, ← Int32.toInt_inj, Int32.reduceToInt, n_1, n_2, n_8, Int32.toNatClampNeg, Int64.lt_iff_toInt_lt, Int64.le_iff_toInt_le, ← Int64.toInt_inj, Int64.reduceToInt, Int32.toInt_toInt64, lg_cmp_ge, lg_cmp_le, lg_cmp_gt, lg_cmp_lt, lg_cmp_eq, Bool.false_eq_true, Bool.true_eq_false, reduceCtorEq, false_iff, true_iff, iff_true, iff_false, and_true, true_and, and_false, false_and, reduceIte, ite_true, ite_false, eq_self] at *)) <;> omega) ?_
          refine wa_aload_n (i := 0) rfl rfl ?_
          refine wa_iconst (v := 1) (by decide) ?_
          refine wa_iconst (v := 2) (by decide) ?_
          refine wa_iconst (v := 3) (by decide) ?_
          refine wa_iconst (v := 0) (by decide) ?_
          refine wa_iconst (v := 1) (by decide) ?_
          refine wa_iconst (v := 2) (by decide) ?_
          refine wa_Vl (d9 := d - 1) [.int _, .int _, .int _, .int _, .int _, .int _] [.long (gl σ 102 (3 : Int32).toNatClampNeg), .long v20] (sp_X12_three G (d := d - 1) (by omega) σ _ _ _ _ _ _) (rfl) rfl rfl (zr (by omega)) mk_X12_three ly_84 ml_12_1083 (Nat.le_of_ble_eq_true rfl) (fun x22 s21 hs21 => ?_)
          obtain ⟨zs21, -⟩ := pL hs21
          subst zs21
          refine wa_lmul ?_
          refine wa_topl (fun v23 hv23 => ?_)
          have tv23 := m_l_remU hv23
          clear hv23
          refine wa_lsub ?_
          refine wa_topl (fun v24 hv24 => ?_)
          have tv24 := s_l_remU hv24
          clear hv24
          refine wa_lreturn rfl rfl ?_
          exact ⟨_, rfl, rfl, trivial⟩
set_option maxHeartbeats 4000000 in
theorem sp_X12_layBasis (G : kG9) {d : Nat} (hd : 1 ≤ d) (σ : St) (r1 : 0 ≤ (gi σ 84 32).toInt ∧ (gi σ 84 32).toInt ≤ 4) : Ct G M_X12_layBasis d [.ref 84] σ (fun r σ' => Fm [102] [] σ σ' ∧ True) := by
  refine wa_start (by decide) rfl (Nat.le_of_ble_eq_true rfl) (lv := [(0, .ref 84)]) rfl o_X12_layBasis_0 rfl ?_
  refine wa_iconst (v := 0) (by decide) ?_
  refine wa_istore_nD (lv' := [(1, .int 0), (0, .ref 84)]) (i := 1) rfl (by decide) rfl ?_
  refine wa_pick [1, 0] rfl ?_
  have hi3 : ∀ (n9_2 : Nat) (l1 : Int32) (s1 : St), ((Fm [102] [] σ s1) ∧ (gi s1 84 32 = gi σ 84 32) ∧ (0 ≤ l1.toInt) ∧ (True)) → (2147483647 - l1.toInt).toNat = n9_2 → WA G M_X12_layBasis (ZM G M_X12_layBasis d (fun r σ' => Fm [102] [] σ σ' ∧ True)) B_X12_layBasis_2 [(0, .ref 84), (1, .int l1)] [] s1 := by
    intro n9_2
    induction n9_2 using Nat.strongRecOn with
    | _ n9_2 ih2 =>
      intro l1 s1 i9 m9_2
      obtain ⟨Fs1, khi3_0, jhi3_0, -⟩ := i9
      have ul1 := Int32.toInt_lt l1
      have wl1 := Int32.le_toInt l1
      refine wa_iload_n (i := 1) rfl rfl ?_
      refine wa_aload_n (i := 0) rfl rfl ?_
      refine wa_geti ck_12 fl_12_815 ly_84 ?_
      refine wa_rw (khi3_0) ?_
      refine wa_icmp_ge o_X12_layBasis_50 (by decide) (fun h4 => ?_) (fun h4 => ?_)
      · refine wa_return (st := []) rfl rfl ?_
        exact ⟨Fs1, trivial⟩
      · have mh4 := nle_mx h4
        refine wa_iconst (v := 0) (by decide) ?_
        refine wa_istore_nD (lv' := [(2, .int 0), (0, .ref 84), (1, .int l1)]) (i := 2) rfl (by decide) rfl ?_
        refine wa_pick [1, 2, 0] rfl ?_
        have hi7 : ∀ (n9_12 : Nat) (l2 : Int32) (s5 : St), ((Fm [102] [] σ s5) ∧ (gi s5 84 32 = gi σ 84 32) ∧ (0 ≤ l2.toInt) ∧ (True)) → (2147483647 - l2.toInt).toNat = n9_12 → WA G M_X12_layBasis (ZM G M_X12_layBasis d (fun r σ' => Fm [102] [] σ σ' ∧ True)) B_X12_layBasis_12 [(0, .ref 84), (1, .int l1), (2, .int l2)] [] s5 := by
          intro n9_12
          induction n9_12 using Nat.strongRecOn with
          | _ n9_12 ih6 =>
            intro l2 s5 i9 m9_12
            obtain ⟨Fs5, khi7_0, jhi7_0, -⟩ := i9
            have ul2 := Int32.toInt_lt l2
            have wl2 := Int32.le_toInt l2
            refine wa_iload_n (i := 2) rfl rfl ?_
            refine wa_iconst (v := 4) (by decide) ?_
            refine wa_icmp_ge o_X12_layBasis_44 (by decide) (fun h8 => ?_) (fun h8 => ?_)
            · refine wa_iinc (v := (1)) (lv' := fun y9 => [(1, .int y9), (0, .ref 84), (2, .int l2)]) (by decide) rfl (by decide) (fun _ => rfl) (fun y9 hy9 => ?_)
              have ty9 := i_addT hy9.symm
              clear hy9
              refine wa_goto o_X12_layBasis_2 (by decide) ?_
              refine wa_pick [1, 0] rfl ?_
              exact ih2 _ (by ((try simp only [vp_in_iff, Int32.lt_iff_toInt_lt, Int32.le_iff_toInt_le, ← Int32.toInt_inj, Int32.reduceToInt, n_1, n_2, n_8, Int32.toNatClampNeg, Int64.lt_iff_toInt_lt, Int64.le_iff_toInt_le, ← Int64.toInt_inj, Int64.reduceToInt, Int32.toInt_toInt64, lg_cmp_ge, lg_cmp_le, lg_cmp_gt, lg_cmp_lt, lg_cmp_eq, Bool.false_eq_true, Bool.true_eq_false, reduceCtorEq, false_iff, true_iff, iff_true, iff_false, and_true, true_and, and_false, false_and, reduceIte, ite_true, ite_false, eq_self] at *)) <;> omega) _ _ ⟨Fs5, (khi7_0), (by ((try simp only [vp_in_iff, Int32.lt_iff_toInt_lt, Int32.le_iff_toInt_le, ← Int32.toInt_inj, Int32.reduceToInt, n_1, n_2, n_8, Int32.toNatClampNeg, Int64.lt_iff_toInt_lt, Int64.le_iff_toInt_le, ← Int64.toInt_inj, Int64.reduceToInt, Int32.toInt_toInt64, lg_cmp_ge, lg_cmp_le, lg_cmp_gt, lg_cmp_lt, lg_cmp_eq, Bool.false_eq_true, Bool.true_eq_false, reduceCtorEq, false_iff, true_iff, iff_true, iff_false, and_true, true_and, and_false, false_and, reduceIte, ite_true, ite_false, eq_self] at *)) <;> omega), trivial⟩ rfl
            · have mh8 := nle_mx h8
              refine wa_aload_n (i := 0) rfl rfl ?_
              refine wa_getr ck_12 fl_12_403 ly_84 rf_84_163 ?_
              refine wa_iconst (v := 4) (by decide) ?_
              refine wa_iload_n (i := 1) rfl rfl ?_
              refine wa_imul ?_
              refine wa_top (fun v10 hv10 => ?_)
              have tv10 := i_mulT hv10
              clear hv10
              refine wa_iload_n (i := 2) rfl rfl ?_
              refine wa_iadd ?_
              refine wa_top (fun v11 hv11 => ?_)
              have tv11 := i_addT hv11
              clear hv11
              refine wa_aload_n (i := 0) rfl rfl ?_
              refine wa_aload_n (i := 0) rfl rfl ?_
              refine wa_getr ck_12 fl_12_400 ly_84 rf_84_162 ?_
              refine wa_iload_n (i := 1) rfl rfl ?_
              refine wa_iald ly_103 (by ((try simp only [vp_in_iff, Int32.lt_iff_toInt_lt, Int32.le_iff_toInt_le, ← Int32.toInt_inj, Int32.reduceToInt, n_1, n_2, n_8, Int32.toNatClampNeg, Int64.lt_iff_toInt_lt, Int64.le_iff_toInt_le, ← Int64.toInt_inj, Int64.reduceToInt, Int32.toInt_toInt64, lg_cmp_ge, lg_cmp_le, lg_cmp_gt, lg_cmp_lt, lg_cmp_eq, Bool.false_eq_true, Bool.true_eq_false, reduceCtorEq, false_iff, true_iff, iff_true, iff_false, and_true, true_and, and_false, false_and, reduceIte, ite_true, ite_false, eq_self] at *)) <;> omega) ?_
              refine wa_iload_n (i := 2) rfl rfl ?_
              refine wa_Vl (d9 := d - 1) [.int _, .int _] [.int v11, .ref 102] (sp_X12_factor G (d := d - 1) (by omega) s5 _ _) (rfl) rfl rfl (zr (by omega)) mk_X12_factor ly_84 ml_12_1087 (Nat.le_of_ble_eq_true rfl) (fun x13 s12 hs12 => ?_)
              obtain ⟨zs12, -⟩ := pL hs12
              subst zs12
              refine wa_last ly_102 (by ((try simp only [vp_in_iff, Int32.lt_iff_toInt_lt, Int32.le_iff_toInt_le, ← Int32.toInt_inj, Int32.reduceToInt, n_1, n_2, n_8, Int32.toNatClampNeg, Int64.lt_iff_toInt_lt, Int64.le_iff_toInt_le, ← Int64.toInt_inj, Int64.reduceToInt, Int32.toInt_toInt64, lg_cmp_ge, lg_cmp_le, lg_cmp_gt, lg_cmp_lt, lg_cmp_eq, Bool.false_eq_true, Bool.true_eq_false, reduceCtorEq, false_iff, true_iff, iff_true, iff_false, and_true, true_and, and_false, false_and, reduceIte, ite_true, ite_false, eq_self] at *)) <;> omega) (fun s14 hs14 => ?_)
              have Fs14 : Fm [102] [] σ s14 := by rw [hs14]; exact Fm.sl Fs5 rfl
              refine wa_iinc (v := (1)) (lv' := fun y15 => [(2, .int y15), (0, .ref 84), (1, .int l1)]) (by decide) rfl (by decide) (fun _ => rfl) (fun y15 hy15 => ?_)
              have ty15 := i_addT hy15.symm
              clear hy15
              refine wa_goto o_X12_layBasis_12 (by decide) ?_
              refine wa_pick [1, 2, 0] rfl ?_
              exact ih6 _ (by ((try simp only [vp_in_iff, Int32.lt_iff_toInt_lt, Int32.le_iff_toInt_le, ← Int32.toInt_inj, Int32.reduceToInt, n_1, n_2, n_8, Int32.toNatClampNeg, Int64.lt_iff_toInt_lt, Int64.le_iff_toInt_le, ← Int64.toInt_inj, Int64.reduceToInt, Int32.toInt_toInt64, lg_cmp_ge, lg_cmp_le, lg_cmp_gt, lg_cmp_lt, lg_cmp_eq, Bool.false_eq_true, Bool.true_eq_false, reduceCtorEq, false_iff, true_iff, iff_true, iff_false, and_true, true_and, and_false, false_and, reduceIte, ite_true, ite_false, eq_self] at *)) <;> omega) _ _ ⟨Fs14, ((nx_gi_sl hs14).trans (khi7_0)), (by ((try simp only [vp_in_iff, Int32.lt_iff_toInt_lt, Int32.le_iff_toInt_le, ← Int32.toInt_inj, Int32.reduceToInt, n_1, n_2, n_8, Int32.toNatClampNeg, Int64.lt_iff_toInt_lt, Int64.le_iff_toInt_le, ← Int64.toInt_inj, Int64.reduceToInt, Int32.toInt_toInt64, lg_cmp_ge, lg_cmp_le, lg_cmp_gt, lg_cmp_lt, lg_cmp_eq, Bool.false_eq_true, Bool.true_eq_false, reduceCtorEq, false_iff, true_iff, iff_true, iff_false, and_true, true_and, and_false, false_and, reduceIte, ite_true, ite_false, eq_self] at *)) <;> omega), trivial⟩ rfl
        exact hi7 _ _ _ ⟨Fs1, (khi3_0), (by ((try simp only [vp_in_iff, Int32.lt_iff_toInt_lt, Int32.le_iff_toInt_le, ← Int32.toInt_inj, Int32.reduceToInt, n_1, n_2, n_8, Int32.toNatClampNeg, Int64.lt_iff_toInt_lt, Int64.le_iff_toInt_le, ← Int64.toInt_inj, Int64.reduceToInt, Int32.toInt_toInt64, lg_cmp_ge, lg_cmp_le, lg_cmp_gt, lg_cmp_lt, lg_cmp_eq, Bool.false_eq_true, Bool.true_eq_false, reduceCtorEq, false_iff, true_iff, iff_true, iff_false, and_true, true_and, and_false, false_and, reduceIte, ite_true, ite_false, eq_self] at *)) <;> omega), trivial⟩ rfl
  exact hi3 _ _ _ ⟨(Fm.rf [102] [] σ), (rfl), (by ((try simp only [vp_in_iff, Int32.lt_iff_toInt_lt, Int32.le_iff_toInt_le, ← Int32.toInt_inj, Int32.reduceToInt, n_1, n_2, n_8, Int32.toNatClampNeg, Int64.lt_iff_toInt_lt, Int64.le_iff_toInt_le, ← Int64.toInt_inj, Int64.reduceToInt, Int32.toInt_toInt64, lg_cmp_ge, lg_cmp_le, lg_cmp_gt, lg_cmp_lt, lg_cmp_eq, Bool.false_eq_true, Bool.true_eq_false, reduceCtorEq, false_iff, true_iff, iff_true, iff_false, and_true, true_and, and_false, false_and, reduceIte, ite_true, ite_false, eq_self] at *)) <;> omega), trivial⟩ rfl
set_option maxHeartbeats 4000000 in
theorem sp_X12_shareOf (G : kG9) {d : Nat} (hd : 3 ≤ d) (σ : St) (a0 : Int32) (a1 : Int32) (r1 : 0 ≤ (gi σ 84 32).toInt ∧ (gi σ 84 32).toInt ≤ 4) : Ct G M_X12_shareOf d [.ref 84, .int a0, .int a1] σ (fun r σ' => ∃ x : Int64, r = some (.long x) ∧ Fm [102] [] σ σ' ∧ True) := by
  refine wa_start (by decide) rfl (Nat.le_of_ble_eq_true rfl) (lv := [(0, .ref 84), (1, .int a0), (2, .int a1)]) rfl o_X12_shareOf_0 rfl ?_
  have ua0 := Int32.toInt_lt a0
  have wa0 := Int32.le_toInt a0
  have ua1 := Int32.toInt_lt a1
  have wa1 := Int32.le_toInt a1
  refine wa_aload_n (i := 0) rfl rfl ?_
  refine wa_Vv (d9 := d - 1) [] [] (sp_X12_layBasis G (d := d - 1) (by omega) σ  (by first | assumption | exact Or.inl rfl | exact Or.inr rfl | (((try simp only [vp_in_iff, Int32.lt_iff_toInt_lt, Int32.le_iff_toInt_le, ← Int32.toInt_inj, Int32.reduceToInt, n_1, n_2, n_8, Int32.toNatClampNeg, Int64.lt_iff_toInt_lt, Int64.le_iff_toInt_le, ← Int64.toInt_inj, Int64.reduceToInt, Int32.toInt_toInt64, lg_cmp_ge, lg_cmp_le, lg_cmp_gt, lg_cmp_lt, lg_cmp_eq, Bool.false_eq_true, Bool.true_eq_false, reduceCtorEq, false_iff, true_iff, iff_true, iff_false, and_true, true_and, and_false, false_and, reduceIte, ite_true, ite_false, eq_self] at *)) <;> omega))) (rfl) rfl rfl (zr (by omega)) mk_X12_layBasis ly_84 ml_12_1090 (Nat.le_of_ble_eq_true rfl) (fun s1 hs1 => ?_)
  obtain ⟨fs1, -⟩ := hs1
  have Fs1 : Fm [102] [] σ s1 := Fm.tr (Fm.rf [102] [] σ) (Fm.wd fs1 rfl rfl)
  refine wa_iconst (v := 0) (by decide) ?_
  refine wa_istore_nD (lv' := [(3, .int 0), (0, .ref 84), (1, .int a0), (2, .int a1)]) (i := 3) rfl (by decide) rfl ?_
  refine wa_pick [1, 2, 3, 0] rfl ?_
  have hi5 : ∀ (n9_6 : Nat) (l3 : Int32) (s3 : St), ((Fm [102] [] σ s3) ∧ (gi s3 84 32 = gi σ 84 32) ∧ (0 ≤ l3.toInt) ∧ (True)) → (2147483647 - l3.toInt).toNat = n9_6 → WA G M_X12_shareOf (ZM G M_X12_shareOf d (fun r σ' => ∃ x : Int64, r = some (.long x) ∧ Fm [102] [] σ σ' ∧ True)) B_X12_shareOf_6 [(0, .ref 84), (1, .int a0), (2, .int a1), (3, .int l3)] [] s3 := by
    intro n9_6
    induction n9_6 using Nat.strongRecOn with
    | _ n9_6 ih4 =>
      intro l3 s3 i9 m9_6
      obtain ⟨Fs3, khi5_0, jhi5_0, -⟩ := i9
      have ul3 := Int32.toInt_lt l3
      have wl3 := Int32.le_toInt l3
      refine wa_iload_n (i := 3) rfl rfl ?_
      refine wa_iconst (v := 4) (by decide) ?_
      refine wa_icmp_ge o_X12_shareOf_54 (by decide) (fun h6 => ?_) (fun h6 => ?_)
      · refine wa_aload_n (i := 0) rfl rfl ?_
        refine wa_Vl (d9 := d - 1) [] [] (sp_X12_determinant G (d := d - 1) (by omega) s3  (by rw [khi5_0]; first | assumption | exact Or.inl rfl | exact Or.inr rfl | (((try simp only [vp_in_iff, Int32.lt_iff_toInt_lt, Int32.le_iff_toInt_le, ← Int32.toInt_inj, Int32.reduceToInt, n_1, n_2, n_8, Int32.toNatClampNeg, Int64.lt_iff_toInt_lt, Int64.le_iff_toInt_le, ← Int64.toInt_inj, Int64.reduceToInt, Int32.toInt_toInt64, lg_cmp_ge, lg_cmp_le, lg_cmp_gt, lg_cmp_lt, lg_cmp_eq, Bool.false_eq_true, Bool.true_eq_false, reduceCtorEq, false_iff, true_iff, iff_true, iff_false, and_true, true_and, and_false, false_and, reduceIte, ite_true, ite_false, eq_self] at *)) <;> omega))) (rfl) rfl rfl (zr (by omega)) mk_X12_determinant ly_84 ml_12_1093 (Nat.le_of_ble_eq_true rfl) (fun x8 s7 hs7 => ?_)
        obtain ⟨zs7, -⟩ := pL hs7
        subst zs7
        refine wa_lreturn rfl rfl ?_
        exact ⟨_, rfl, Fs3, trivial⟩
      · have mh6 := nle_mx h6
        refine wa_aload_n (i := 0) rfl rfl ?_
        refine wa_getr ck_12 fl_12_403 ly_84 rf_84_163 ?_
        refine wa_iconst (v := 4) (by decide) ?_
        refine wa_iload_n (i := 1) rfl rfl ?_
        refine wa_imul ?_
        refine wa_top (fun v9 hv9 => ?_)
        have tv9 := i_mulT hv9
        clear hv9
        refine wa_iload_n (i := 3) rfl rfl ?_
        refine wa_iadd ?_
        refine wa_top (fun v10 hv10 => ?_)
        have tv10 := i_addT hv10
        clear hv10
        refine wa_iload_n (i := 2) rfl rfl ?_
        refine wa_if_ne o_X12_shareOf_33 (by decide) (fun h11 => ?_) (fun h11 => ?_)
        · refine wa_iload_n (i := 2) rfl rfl ?_
          refine wa_iconst (v := 1) (by decide) ?_
          refine wa_isub ?_
          refine wa_top (fun v12 hv12 => ?_)
          have tv12 := i_subT hv12
          clear hv12
          refine wa_iload_n (i := 3) rfl rfl ?_
          refine wa_icmp_ne o_X12_shareOf_46 (by decide) (fun h13 => ?_) (fun h13 => ?_)
          · refine wa_lconst (v := 0) (by decide) ?_
            refine wa_last ly_102 (by ((try simp only [vp_in_iff, Int32.lt_iff_toInt_lt, Int32.le_iff_toInt_le, ← Int32.toInt_inj, Int32.reduceToInt, n_1, n_2, n_8, Int32.toNatClampNeg, Int64.lt_iff_toInt_lt, Int64.le_iff_toInt_le, ← Int64.toInt_inj, Int64.reduceToInt, Int32.toInt_toInt64, lg_cmp_ge, lg_cmp_le, lg_cmp_gt, lg_cmp_lt, lg_cmp_eq, Bool.false_eq_true, Bool.true_eq_false, reduceCtorEq, false_iff, true_iff, iff_true, iff_false, and_true, true_and, and_false, false_and, reduceIte, ite_true, ite_false, eq_self] at *)) <;> omega) (fun s14 hs14 => ?_)
            have Fs14 : Fm [102] [] σ s14 := by rw [hs14]; exact Fm.sl Fs3 rfl
            refine wa_iinc (v := (1)) (lv' := fun y15 => [(3, .int y15), (0, .ref 84), (1, .int a0), (2, .int a1)]) (by decide) rfl (by decide) (fun _ => rfl) (fun y15 hy15 => ?_)
            have ty15 := i_addT hy15.symm
            clear hy15
            refine wa_goto o_X12_shareOf_6 (by decide) ?_
            refine wa_pick [1, 2, 3, 0] rfl ?_
            exact ih4 _ (by ((try simp only [vp_in_iff, Int32.lt_iff_toInt_lt, Int32.le_iff_toInt_le, ← Int32.toInt_inj, Int32.reduceToInt, n_1, n_2, n_8, Int32.toNatClampNeg, Int64.lt_iff_toInt_lt, Int64.le_iff_toInt_le, ← Int64.toInt_inj, Int64.reduceToInt, Int32.toInt_toInt64, lg_cmp_ge, lg_cmp_le, lg_cmp_gt, lg_cmp_lt, lg_cmp_eq, Bool.false_eq_true, Bool.true_eq_false, reduceCtorEq, false_iff, true_iff, iff_true, iff_false, and_true, true_and, and_false, false_and, reduceIte, ite_true, ite_false, eq_self] at *)) <;> omega) _ _ ⟨Fs14, ((nx_gi_sl hs14).trans (khi5_0)), (by ((try simp only [vp_in_iff, Int32.lt_iff_toInt_lt, Int32.le_iff_toInt_le, ← Int32.toInt_inj, Int32.reduceToInt, n_1, n_2, n_8, Int32.toNatClampNeg, Int64.lt_iff_toInt_lt, Int64.le_iff_toInt_le, ← Int64.toInt_inj, Int64.reduceToInt, Int32.toInt_toInt64, lg_cmp_ge, lg_cmp_le, lg_cmp_gt, lg_cmp_lt, lg_cmp_eq, Bool.false_eq_true, Bool.true_eq_false, reduceCtorEq, false_iff, true_iff, iff_true, iff_false, and_true, true_and, and_false, false_and, reduceIte, ite_true, ite_false, eq_self] at *)) <;> omega), trivial⟩ rfl
          · refine wa_ldc2 (v := (-1)) (allW_in (kT_12 _ (List.mem_of_getElem? (i := 97) rfl)) rfl) ?_
            refine wa_goto o_X12_shareOf_47 (by decide) ?_
            refine wa_last ly_102 (by ((try simp only [vp_in_iff, Int32.lt_iff_toInt_lt, Int32.le_iff_toInt_le, ← Int32.toInt_inj, Int32.reduceToInt, n_1, n_2, n_8, Int32.toNatClampNeg, Int64.lt_iff_toInt_lt, Int64.le_iff_toInt_le, ← Int64.toInt_inj, Int64.reduceToInt, Int32.toInt_toInt64, lg_cmp_ge, lg_cmp_le, lg_cmp_gt, lg_cmp_lt, lg_cmp_eq, Bool.false_eq_true, Bool.true_eq_false, reduceCtorEq, false_iff, true_iff, iff_true, iff_false, and_true, true_and, and_false, false_and, reduceIte, ite_true, ite_false, eq_self] at *)) <;> omega) (fun s16 hs16 => ?_)
            have Fs16 : Fm [102] [] σ s16 := by rw [hs16]; exact Fm.sl Fs3 rfl
            refine wa_iinc (v := (1)) (lv' := fun y17 => [(3, .int y17), (0, .ref 84), (1, .int a0), (2, .int a1)]) (by decide) rfl (by decide) (fun _ => rfl) (fun y17 hy17 => ?_)
            have ty17 := i_addT hy17.symm
            clear hy17
            refine wa_goto o_X12_shareOf_6 (by decide) ?_
            refine wa_pick [1, 2, 3, 0] rfl ?_
            exact ih4 _ (by ((try simp only [vp_in_iff, Int32.lt_iff_toInt_lt, Int32.le_iff_toInt_le, ← Int32.toInt_inj, Int32.reduceToInt, n_1, n_2, n_8, Int32.toNatClampNeg, Int64.lt_iff_toInt_lt, Int64.le_iff_toInt_le, ← Int64.toInt_inj, Int64.reduceToInt, Int32.toInt_toInt64, lg_cmp_ge, lg_cmp_le, lg_cmp_gt, lg_cmp_lt, lg_cmp_eq, Bool.false_eq_true, Bool.true_eq_false, reduceCtorEq, false_iff, true_iff, iff_true, iff_false, and_true, true_and, and_false, false_and, reduceIte, ite_true, ite_false, eq_self] at *)) <;> omega) _ _ ⟨Fs16, ((nx_gi_sl hs16).trans (khi5_0)), (by ((try simp only [vp_in_iff, Int32.lt_iff_toInt_lt, Int32.le_iff_toInt_le, ← Int32.toInt_inj, Int32.reduceToInt, n_1, n_2, n_8, Int32.toNatClampNeg, Int64.lt_iff_toInt_lt, Int64.le_iff_toInt_le, ← Int64.toInt_inj, Int64.reduceToInt, Int32.toInt_toInt64, lg_cmp_ge, lg_cmp_le, lg_cmp_gt, lg_cmp_lt, lg_cmp_eq, Bool.false_eq_true, Bool.true_eq_false, reduceCtorEq, false_iff, true_iff, iff_true, iff_false, and_true, true_and, and_false, false_and, reduceIte, ite_true, ite_false, eq_self] at *)) <;> omega), trivial⟩ rfl
        · refine wa_aload_n (i := 0) rfl rfl ?_
          refine wa_getr ck_12 fl_12_358 ly_84 rf_84_141 ?_
          refine wa_iload_n (i := 3) rfl rfl ?_
          refine wa_lald ly_117 (by ((try simp only [vp_in_iff, Int32.lt_iff_toInt_lt, Int32.le_iff_toInt_le, ← Int32.toInt_inj, Int32.reduceToInt, n_1, n_2, n_8, Int32.toNatClampNeg, Int64.lt_iff_toInt_lt, Int64.le_iff_toInt_le, ← Int64.toInt_inj, Int64.reduceToInt, Int32.toInt_toInt64, lg_cmp_ge, lg_cmp_le, lg_cmp_gt, lg_cmp_lt, lg_cmp_eq, Bool.false_eq_true, Bool.true_eq_false, reduceCtorEq, false_iff, true_iff, iff_true, iff_false, and_true, true_and, and_false, false_and, reduceIte, ite_true, ite_false, eq_self] at *)) <;> omega) ?_
          refine wa_goto o_X12_shareOf_47 (by decide) ?_
          refine wa_last ly_102 (by ((try simp only [vp_in_iff, Int32.lt_iff_toInt_lt, Int32.le_iff_toInt_le, ← Int32.toInt_inj, Int32.reduceToInt, n_1, n_2, n_8, Int32.toNatClampNeg, Int64.lt_iff_toInt_lt, Int64.le_iff_toInt_le, ← Int64.toInt_inj, Int64.reduceToInt, Int32.toInt_toInt64, lg_cmp_ge, lg_cmp_le, lg_cmp_gt, lg_cmp_lt, lg_cmp_eq, Bool.false_eq_true, Bool.true_eq_false, reduceCtorEq, false_iff, true_iff, iff_true, iff_false, and_true, true_and, and_false, false_and, reduceIte, ite_true, ite_false, eq_self] at *)) <;> omega) (fun s18 hs18 => ?_)
          have Fs18 : Fm [102] [] σ s18 := by rw [hs18]; exact Fm.sl Fs3 rfl
          refine wa_iinc (v := (1)) (lv' := fun y19 => [(3, .int y19), (0, .ref 84), (1, .int a0), (2, .int a1)]) (by decide) rfl (by decide) (fun _ => rfl) (fun y19 hy19 => ?_)
          have ty19 := i_addT hy19.symm
          clear hy19
          refine wa_goto o_X12_shareOf_6 (by decide) ?_
          refine wa_pick [1, 2, 3, 0] rfl ?_
          exact ih4 _ (by ((try simp only [vp_in_iff, Int32.lt_iff_toInt_lt, Int32.le_iff_toInt_le, ← Int32.toInt_inj, Int32.reduceToInt, n_1, n_2, n_8, Int32.toNatClampNeg, Int64.lt_iff_toInt_lt, Int64.le_iff_toInt_le, ← Int64.toInt_inj, Int64.reduceToInt, Int32.toInt_toInt64, lg_cmp_ge, lg_cmp_le, lg_cmp_gt, lg_cmp_lt, lg_cmp_eq, Bool.false_eq_true, Bool.true_eq_false, reduceCtorEq, false_iff, true_iff, iff_true, iff_false, and_true, true_and, and_false, false_and, reduceIte, ite_true, ite_false, eq_self] at *)) <;> omega) _ _ ⟨Fs18, ((nx_gi_sl hs18).trans (khi5_0)), (by ((try simp only [vp_in_iff, Int32.lt_iff_toInt_lt, Int32.le_iff_toInt_le, ← Int32.toInt_inj, Int32.reduceToInt, n_1, n_2, n_8, Int32.toNatClampNeg, Int64.lt_iff_toInt_lt, Int64.le_iff_toInt_le, ← Int64.toInt_inj, Int64.reduceToInt, Int32.toInt_toInt64, lg_cmp_ge, lg_cmp_le, lg_cmp_gt, lg_cmp_lt, lg_cmp_eq, Bool.false_eq_true, Bool.true_eq_false, reduceCtorEq, false_iff, true_iff, iff_true, iff_false, and_true, true_and, and_false, false_and, reduceIte, ite_true, ite_false, eq_self] at *)) <;> omega), trivial⟩ rfl
  exact hi5 _ _ _ ⟨Fs1, (Fm.gi fs1 (q := 84) (k := 32) rfl rfl), (by ((try simp only [vp_in_iff, Int32.lt_iff_toInt_lt, Int32.le_iff_toInt_le, ← Int32.toInt_inj, Int32.reduceToInt, n_1, n_2, n_8, Int32.toNatClampNeg, Int64.lt_iff_toInt_lt, Int64.le_iff_toInt_le, ← Int64.toInt_inj, Int64.reduceToInt, Int32.toInt_toInt64, lg_cmp_ge, lg_cmp_le, lg_cmp_gt, lg_cmp_lt, lg_cmp_eq, Bool.false_eq_true, Bool.true_eq_false, reduceCtorEq, false_iff, true_iff, iff_true, iff_false, and_true, true_and, and_false, false_and, reduceIte, ite_true, ite_false, eq_self] at *)) <;> omega), trivial⟩ rfl
set_option maxHeartbeats 4000000 in
theorem sp_X12_partOf (G : kG9) {d : Nat} (hd : 3 ≤ d) (σ : St) (a0 : Int32) (a1 : Int32) (r1 : 0 ≤ (gi σ 84 32).toInt ∧ (gi σ 84 32).toInt ≤ 4) : Ct G M_X12_partOf d [.ref 84, .int a0, .int a1] σ (fun r σ' => ∃ x : Int64, r = some (.long x) ∧ Fm [102] [] σ σ' ∧ True) := by
  refine wa_start (by decide) rfl (Nat.le_of_ble_eq_true rfl) (lv := [(0, .ref 84), (1, .int a0), (2, .int a1)]) rfl o_X12_partOf_0 rfl ?_
  have ua0 := Int32.toInt_lt a0
  have wa0 := Int32.le_toInt a0
  have ua1 := Int32.toInt_lt a1
  have wa1 := Int32.le_toInt a1
  refine wa_aload_n (i := 0) rfl rfl ?_
  refine wa_Vv (d9 := d - 1) [] [] (sp_X12_layBasis G (d := d - 1) (by omega) σ  (by first | assumption | exact Or.inl rfl | exact Or.inr rfl | (((try simp only [vp_in_iff, Int32.lt_iff_toInt_lt, Int32.le_iff_toInt_le, ← Int32.toInt_inj, Int32.reduceToInt, n_1, n_2, n_8, Int32.toNatClampNeg, Int64.lt_iff_toInt_lt, Int64.le_iff_toInt_le, ← Int64.toInt_inj, Int64.reduceToInt, Int32.toInt_toInt64, lg_cmp_ge, lg_cmp_le, lg_cmp_gt, lg_cmp_lt, lg_cmp_eq, Bool.false_eq_true, Bool.true_eq_false, reduceCtorEq, false_iff, true_iff, iff_true, iff_false, and_true, true_and, and_false, false_and, reduceIte, ite_true, ite_false, eq_self] at *)) <;> omega))) (rfl) rfl rfl (zr (by omega)) mk_X12_layBasis ly_84 ml_12_1090 (Nat.le_of_ble_eq_true rfl) (fun s1 hs1 => ?_)
  obtain ⟨fs1, -⟩ := hs1
  have Fs1 : Fm [102] [] σ s1 := Fm.tr (Fm.rf [102] [] σ) (Fm.wd fs1 rfl rfl)
  refine wa_iconst (v := 0) (by decide) ?_
  refine wa_istore_nD (lv' := [(3, .int 0), (0, .ref 84), (1, .int a0), (2, .int a1)]) (i := 3) rfl (by decide) rfl ?_
  refine wa_pick [1, 2, 3, 0] rfl ?_
  have hi5 : ∀ (n9_6 : Nat) (l3 : Int32) (s3 : St), ((Fm [102] [] σ s3) ∧ (gi s3 84 32 = gi σ 84 32) ∧ (0 ≤ l3.toInt) ∧ (True)) → (2147483647 - l3.toInt).toNat = n9_6 → WA G M_X12_partOf (ZM G M_X12_partOf d (fun r σ' => ∃ x : Int64, r = some (.long x) ∧ Fm [102] [] σ σ' ∧ True)) B_X12_partOf_6 [(0, .ref 84), (1, .int a0), (2, .int a1), (3, .int l3)] [] s3 := by
    intro n9_6
    induction n9_6 using Nat.strongRecOn with
    | _ n9_6 ih4 =>
      intro l3 s3 i9 m9_6
      obtain ⟨Fs3, khi5_0, jhi5_0, -⟩ := i9
      have ul3 := Int32.toInt_lt l3
      have wl3 := Int32.le_toInt l3
      refine wa_iload_n (i := 3) rfl rfl ?_
      refine wa_iconst (v := 4) (by decide) ?_
      refine wa_icmp_ge o_X12_partOf_33 (by decide) (fun h6 => ?_) (fun h6 => ?_)
      · refine wa_aload_n (i := 0) rfl rfl ?_
        refine wa_Vl (d9 := d - 1) [] [] (sp_X12_determinant G (d := d - 1) (by omega) s3  (by rw [khi5_0]; first | assumption | exact Or.inl rfl | exact Or.inr rfl | (((try simp only [vp_in_iff, Int32.lt_iff_toInt_lt, Int32.le_iff_toInt_le, ← Int32.toInt_inj, Int32.reduceToInt, n_1, n_2, n_8, Int32.toNatClampNeg, Int64.lt_iff_toInt_lt, Int64.le_iff_toInt_le, ← Int64.toInt_inj, Int64.reduceToInt, Int32.toInt_toInt64, lg_cmp_ge, lg_cmp_le, lg_cmp_gt, lg_cmp_lt, lg_cmp_eq, Bool.false_eq_true, Bool.true_eq_false, reduceCtorEq, false_iff, true_iff, iff_true, iff_false, and_true, true_and, and_false, false_and, reduceIte, ite_true, ite_false, eq_self] at *)) <;> omega))) (rfl) rfl rfl (zr (by omega)) mk_X12_determinant ly_84 ml_12_1093 (Nat.le_of_ble_eq_true rfl) (fun x8 s7 hs7 => ?_)
        obtain ⟨zs7, -⟩ := pL hs7
        subst zs7
        refine wa_lreturn rfl rfl ?_
        exact ⟨_, rfl, Fs3, trivial⟩
      · have mh6 := nle_mx h6
        refine wa_aload_n (i := 0) rfl rfl ?_
        refine wa_getr ck_12 fl_12_403 ly_84 rf_84_163 ?_
        refine wa_iconst (v := 4) (by decide) ?_
        refine wa_iload_n (i := 1) rfl rfl ?_
        refine wa_imul ?_
        refine wa_top (fun v9 hv9 => ?_)
        have tv9 := i_mulT hv9
        clear hv9
        refine wa_iload_n (i := 3) rfl rfl ?_
        refine wa_iadd ?_
        refine wa_top (fun v10 hv10 => ?_)
        have tv10 := i_addT hv10
        clear hv10
        refine wa_aload_n (i := 0) rfl rfl ?_
        refine wa_iload_n (i := 2) rfl rfl ?_
        refine wa_iload_n (i := 3) rfl rfl ?_
        refine wa_Vl (d9 := d - 1) [.int _, .int _] [.int v10, .ref 102] (sp_X12_factor G (d := d - 1) (by omega) s3 _ _) (rfl) rfl rfl (zr (by omega)) mk_X12_factor ly_84 ml_12_1087 (Nat.le_of_ble_eq_true rfl) (fun x12 s11 hs11 => ?_)
        obtain ⟨zs11, -⟩ := pL hs11
        subst zs11
        refine wa_last ly_102 (by ((try simp only [vp_in_iff, Int32.lt_iff_toInt_lt, Int32.le_iff_toInt_le, ← Int32.toInt_inj, Int32.reduceToInt, n_1, n_2, n_8, Int32.toNatClampNeg, Int64.lt_iff_toInt_lt, Int64.le_iff_toInt_le, ← Int64.toInt_inj, Int64.reduceToInt, Int32.toInt_toInt64, lg_cmp_ge, lg_cmp_le, lg_cmp_gt, lg_cmp_lt, lg_cmp_eq, Bool.false_eq_true, Bool.true_eq_false, reduceCtorEq, false_iff, true_iff, iff_true, iff_false, and_true, true_and, and_false, false_and, reduceIte, ite_true, ite_false, eq_self] at *)) <;> omega) (fun s13 hs13 => ?_)
        have Fs13 : Fm [102] [] σ s13 := by rw [hs13]; exact Fm.sl Fs3 rfl
        refine wa_iinc (v := (1)) (lv' := fun y14 => [(3, .int y14), (0, .ref 84), (1, .int a0), (2, .int a1)]) (by decide) rfl (by decide) (fun _ => rfl) (fun y14 hy14 => ?_)
        have ty14 := i_addT hy14.symm
        clear hy14
        refine wa_goto o_X12_partOf_6 (by decide) ?_
        refine wa_pick [1, 2, 3, 0] rfl ?_
        exact ih4 _ (by ((try simp only [vp_in_iff, Int32.lt_iff_toInt_lt, Int32.le_iff_toInt_le, ← Int32.toInt_inj, Int32.reduceToInt, n_1, n_2, n_8, Int32.toNatClampNeg, Int64.lt_iff_toInt_lt, Int64.le_iff_toInt_le, ← Int64.toInt_inj, Int64.reduceToInt, Int32.toInt_toInt64, lg_cmp_ge, lg_cmp_le, lg_cmp_gt, lg_cmp_lt, lg_cmp_eq, Bool.false_eq_true, Bool.true_eq_false, reduceCtorEq, false_iff, true_iff, iff_true, iff_false, and_true, true_and, and_false, false_and, reduceIte, ite_true, ite_false, eq_self] at *)) <;> omega) _ _ ⟨Fs13, ((nx_gi_sl hs13).trans (khi5_0)), (by ((try simp only [vp_in_iff, Int32.lt_iff_toInt_lt, Int32.le_iff_toInt_le, ← Int32.toInt_inj, Int32.reduceToInt, n_1, n_2, n_8, Int32.toNatClampNeg, Int64.lt_iff_toInt_lt, Int64.le_iff_toInt_le, ← Int64.toInt_inj, Int64.reduceToInt, Int32.toInt_toInt64, lg_cmp_ge, lg_cmp_le, lg_cmp_gt, lg_cmp_lt, lg_cmp_eq, Bool.false_eq_true, Bool.true_eq_false, reduceCtorEq, false_iff, true_iff, iff_true, iff_false, and_true, true_and, and_false, false_and, reduceIte, ite_true, ite_false, eq_self] at *)) <;> omega), trivial⟩ rfl
  exact hi5 _ _ _ ⟨Fs1, (Fm.gi fs1 (q := 84) (k := 32) rfl rfl), (by ((try simp only [vp_in_iff, Int32.lt_iff_toInt_lt, Int32.le_iff_toInt_le, ← Int32.toInt_inj, Int32.reduceToInt, n_1, n_2, n_8, Int32.toNatClampNeg, Int64.lt_iff_toInt_lt, Int64.le_iff_toInt_le, ← Int64.toInt_inj, Int64.reduceToInt, Int32.toInt_toInt64, lg_cmp_ge, lg_cmp_le, lg_cmp_gt, lg_cmp_lt, lg_cmp_eq, Bool.false_eq_true, Bool.true_eq_false, reduceCtorEq, false_iff, true_iff, iff_true, iff_false, and_true, true_and, and_false, false_and, reduceIte, ite_true, ite_false, eq_self] at *)) <;> omega), trivial⟩ rfl
set_option maxHeartbeats 4000000 in
theorem sp_X12_solve (G : kG9) {d : Nat} (hd : 3 ≤ d) (σ : St) (r1 : 0 ≤ (gi σ 84 32).toInt ∧ (gi σ 84 32).toInt ≤ 4) : Ct G M_X12_solve d [.ref 84] σ (fun r σ' => Fm [100, 101, 102] [164] σ σ' ∧ True) := by
  refine wa_start (by decide) rfl (Nat.le_of_ble_eq_true rfl) (lv := [(0, .ref 84)]) rfl o_X12_solve_0 rfl ?_
  refine wa_aload_n (i := 0) rfl rfl ?_
  refine wa_Vv (d9 := d - 1) [] [] (sp_X12_layBasis G (d := d - 1) (by omega) σ  (by first | assumption | exact Or.inl rfl | exact Or.inr rfl | (((try simp only [vp_in_iff, Int32.lt_iff_toInt_lt, Int32.le_iff_toInt_le, ← Int32.toInt_inj, Int32.reduceToInt, n_1, n_2, n_8, Int32.toNatClampNeg, Int64.lt_iff_toInt_lt, Int64.le_iff_toInt_le, ← Int64.toInt_inj, Int64.reduceToInt, Int32.toInt_toInt64, lg_cmp_ge, lg_cmp_le, lg_cmp_gt, lg_cmp_lt, lg_cmp_eq, Bool.false_eq_true, Bool.true_eq_false, reduceCtorEq, false_iff, true_iff, iff_true, iff_false, and_true, true_and, and_false, false_and, reduceIte, ite_true, ite_false, eq_self] at *)) <;> omega))) (rfl) rfl rfl (zr (by omega)) mk_X12_layBasis ly_84 ml_12_1090 (Nat.le_of_ble_eq_true rfl) (fun s1 hs1 => ?_)
  obtain ⟨fs1, -⟩ := hs1
  have Fs1 : Fm [100, 101, 102] [164] σ s1 := Fm.tr (Fm.rf [100, 101, 102] [164] σ) (Fm.wd fs1 rfl rfl)
  refine wa_aload_n (i := 0) rfl rfl ?_
  refine wa_aload_n (i := 0) rfl rfl ?_
  refine wa_Vl (d9 := d - 1) [] [.ref 84] (sp_X12_determinant G (d := d - 1) (by omega) s1  (by rw [Fm.gi fs1 (q := 84) (k := 32) rfl rfl]; first | assumption | exact Or.inl rfl | exact Or.inr rfl | (((try simp only [vp_in_iff, Int32.lt_iff_toInt_lt, Int32.le_iff_toInt_le, ← Int32.toInt_inj, Int32.reduceToInt, n_1, n_2, n_8, Int32.toNatClampNeg, Int64.lt_iff_toInt_lt, Int64.le_iff_toInt_le, ← Int64.toInt_inj, Int64.reduceToInt, Int32.toInt_toInt64, lg_cmp_ge, lg_cmp_le, lg_cmp_gt, lg_cmp_lt, lg_cmp_eq, Bool.false_eq_true, Bool.true_eq_false, reduceCtorEq, false_iff, true_iff, iff_true, iff_false, and_true, true_and, and_false, false_and, reduceIte, ite_true, ite_false, eq_self] at *)) <;> omega))) (rfl) rfl rfl (zr (by omega)) mk_X12_determinant ly_84 ml_12_1093 (Nat.le_of_ble_eq_true rfl) (fun x4 s3 hs3 => ?_)
  obtain ⟨zs3, -⟩ := pL hs3
  subst zs3
  refine wa_putl ck_12 fl_12_1097 ly_84 (fun s5 hs5 => ?_)
  have Fs5 : Fm [100, 101, 102] [164] σ s5 := by rw [hs5]; exact Fm.sl Fs1 rfl
  refine wa_iconst (v := 0) (by decide) ?_
  refine wa_istore_nD (lv' := [(1, .int 0), (0, .ref 84)]) (i := 1) rfl (by decide) rfl ?_
  refine wa_pick [1, 0] rfl ?_
  have hi8 : ∀ (n9_14 : Nat) (l1 : Int32) (s6 : St), ((Fm [100, 101, 102] [164] σ s6) ∧ (gi s6 84 32 = gi σ 84 32) ∧ (gl s6 84 164 = x4) ∧ (gi s6 84 160 = gi σ 84 160) ∧ (0 ≤ l1.toInt) ∧ (True)) → (2147483647 - l1.toInt).toNat = n9_14 → WA G M_X12_solve (ZM G M_X12_solve d (fun r σ' => Fm [100, 101, 102] [164] σ σ' ∧ True)) B_X12_solve_14 [(0, .ref 84), (1, .int l1)] [] s6 := by
    intro n9_14
    induction n9_14 using Nat.strongRecOn with
    | _ n9_14 ih7 =>
      intro l1 s6 i9 m9_14
      obtain ⟨Fs6, khi8_0, khi8_1, khi8_2, jhi8_0, -⟩ := i9
      have ul1 := Int32.toInt_lt l1
      have wl1 := Int32.le_toInt l1
      refine wa_iload_n (i := 1) rfl rfl ?_
      refine wa_aload_n (i := 0) rfl rfl ?_
      refine wa_geti ck_12 fl_12_815 ly_84 ?_
      refine wa_rw (khi8_0) ?_
      refine wa_icmp_ge o_X12_solve_154 (by decide) (fun h9 => ?_) (fun h9 => ?_)
      · refine wa_aload_n (i := 0) rfl rfl ?_
        refine wa_getl ck_12 fl_12_1097 ly_84 ?_
        refine wa_rwl (khi8_1) ?_
        refine wa_lconst (v := 0) (by decide) ?_
        refine wa_lcmp ?_
        refine wa_top (fun v10 hv10 => ?_)
        have tv10 := i_cmpT hv10
        clear hv10
        refine wa_if_ge o_X12_solve_217 (by decide) (fun h11 => ?_) (fun h11 => ?_)
        · refine wa_return (st := []) rfl rfl ?_
          exact ⟨Fs6, trivial⟩
        · refine wa_aload_n (i := 0) rfl rfl ?_
          refine wa_lconst (v := 0) (by decide) ?_
          refine wa_aload_n (i := 0) rfl rfl ?_
          refine wa_getl ck_12 fl_12_1097 ly_84 ?_
          refine wa_rwl (khi8_1) ?_
          refine wa_lsub ?_
          refine wa_topl (fun v12 hv12 => ?_)
          have tv12 := s_l_remU hv12
          clear hv12
          refine wa_putl ck_12 fl_12_1097 ly_84 (fun s13 hs13 => ?_)
          have Fs13 : Fm [100, 101, 102] [164] σ s13 := by rw [hs13]; exact Fm.sl Fs6 rfl
          refine wa_iconst (v := 0) (by decide) ?_
          refine wa_istore_nD (lv' := [(1, .int 0), (0, .ref 84)]) (i := 1) rfl (by decide) rfl ?_
          refine wa_pick [1, 0] rfl ?_
          have hi16 : ∀ (n9_175 : Nat) (l1 : Int32) (s14 : St), ((Fm [100, 101, 102] [164] σ s14) ∧ (gi s14 84 32 = gi σ 84 32) ∧ (gl s14 84 164 = v12) ∧ (gi s14 84 160 = gi σ 84 160) ∧ (0 ≤ l1.toInt) ∧ (True)) → (2147483647 - l1.toInt).toNat = n9_175 → WA G M_X12_solve (ZM G M_X12_solve d (fun r σ' => Fm [100, 101, 102] [164] σ σ' ∧ True)) B_X12_solve_175 [(0, .ref 84), (1, .int l1)] [] s14 := by
            intro n9_175
            induction n9_175 using Nat.strongRecOn with
            | _ n9_175 ih15 =>
              intro l1 s14 i9 m9_175
              obtain ⟨Fs14, khi16_0, khi16_1, khi16_2, jhi16_0, -⟩ := i9
              have ul1 := Int32.toInt_lt l1
              have wl1 := Int32.le_toInt l1
              refine wa_iload_n (i := 1) rfl rfl ?_
              refine wa_aload_n (i := 0) rfl rfl ?_
              refine wa_geti ck_12 fl_12_815 ly_84 ?_
              refine wa_rw (khi16_0) ?_
              refine wa_icmp_ge o_X12_solve_217 (by decide) (fun h17 => ?_) (fun h17 => ?_)
              · refine wa_return (st := []) rfl rfl ?_
                exact ⟨Fs14, trivial⟩
              · have mh17 := nle_mx h17
                refine wa_aload_n (i := 0) rfl rfl ?_
                refine wa_getr ck_12 fl_12_406 ly_84 rf_84_165 ?_
                refine wa_iload_n (i := 1) rfl rfl ?_
                refine wa_lconst (v := 0) (by decide) ?_
                refine wa_aload_n (i := 0) rfl rfl ?_
                refine wa_getr ck_12 fl_12_406 ly_84 rf_84_165 ?_
                refine wa_iload_n (i := 1) rfl rfl ?_
                refine wa_lald ly_101 (by ((try simp only [vp_in_iff, Int32.lt_iff_toInt_lt, Int32.le_iff_toInt_le, ← Int32.toInt_inj, Int32.reduceToInt, n_1, n_2, n_8, Int32.toNatClampNeg, Int64.lt_iff_toInt_lt, Int64.le_iff_toInt_le, ← Int64.toInt_inj, Int64.reduceToInt, Int32.toInt_toInt64, lg_cmp_ge, lg_cmp_le, lg_cmp_gt, lg_cmp_lt, lg_cmp_eq, Bool.false_eq_true, Bool.true_eq_false, reduceCtorEq, false_iff, true_iff, iff_true, iff_false, and_true, true_and, and_false, false_and, reduceIte, ite_true, ite_false, eq_self] at *)) <;> omega) ?_
                refine wa_lsub ?_
                refine wa_topl (fun v18 hv18 => ?_)
                have tv18 := s_l_remU hv18
                clear hv18
                refine wa_last ly_101 (by ((try simp only [vp_in_iff, Int32.lt_iff_toInt_lt, Int32.le_iff_toInt_le, ← Int32.toInt_inj, Int32.reduceToInt, n_1, n_2, n_8, Int32.toNatClampNeg, Int64.lt_iff_toInt_lt, Int64.le_iff_toInt_le, ← Int64.toInt_inj, Int64.reduceToInt, Int32.toInt_toInt64, lg_cmp_ge, lg_cmp_le, lg_cmp_gt, lg_cmp_lt, lg_cmp_eq, Bool.false_eq_true, Bool.true_eq_false, reduceCtorEq, false_iff, true_iff, iff_true, iff_false, and_true, true_and, and_false, false_and, reduceIte, ite_true, ite_false, eq_self] at *)) <;> omega) (fun s19 hs19 => ?_)
                have Fs19 : Fm [100, 101, 102] [164] σ s19 := by rw [hs19]; exact Fm.sl Fs14 rfl
                refine wa_aload_n (i := 0) rfl rfl ?_
                refine wa_getr ck_12 fl_12_409 ly_84 rf_84_166 ?_
                refine wa_iload_n (i := 1) rfl rfl ?_
                refine wa_lconst (v := 0) (by decide) ?_
                refine wa_aload_n (i := 0) rfl rfl ?_
                refine wa_getr ck_12 fl_12_409 ly_84 rf_84_166 ?_
                refine wa_iload_n (i := 1) rfl rfl ?_
                refine wa_lald ly_100 (by ((try simp only [vp_in_iff, Int32.lt_iff_toInt_lt, Int32.le_iff_toInt_le, ← Int32.toInt_inj, Int32.reduceToInt, n_1, n_2, n_8, Int32.toNatClampNeg, Int64.lt_iff_toInt_lt, Int64.le_iff_toInt_le, ← Int64.toInt_inj, Int64.reduceToInt, Int32.toInt_toInt64, lg_cmp_ge, lg_cmp_le, lg_cmp_gt, lg_cmp_lt, lg_cmp_eq, Bool.false_eq_true, Bool.true_eq_false, reduceCtorEq, false_iff, true_iff, iff_true, iff_false, and_true, true_and, and_false, false_and, reduceIte, ite_true, ite_false, eq_self] at *)) <;> omega) ?_
                refine wa_lsub ?_
                refine wa_topl (fun v20 hv20 => ?_)
                have tv20 := s_l_remU hv20
                clear hv20
                refine wa_last ly_100 (by ((try simp only [vp_in_iff, Int32.lt_iff_toInt_lt, Int32.le_iff_toInt_le, ← Int32.toInt_inj, Int32.reduceToInt, n_1, n_2, n_8, Int32.toNatClampNeg, Int64.lt_iff_toInt_lt, Int64.le_iff_toInt_le, ← Int64.toInt_inj, Int64.reduceToInt, Int32.toInt_toInt64, lg_cmp_ge, lg_cmp_le, lg_cmp_gt, lg_cmp_lt, lg_cmp_eq, Bool.false_eq_true, Bool.true_eq_false, reduceCtorEq, false_iff, true_iff, iff_true, iff_false, and_true, true_and, and_false, false_and, reduceIte, ite_true, ite_false, eq_self] at *)) <;> omega) (fun s21 hs21 => ?_)
                have Fs21 : Fm [100, 101, 102] [164] σ s21 := by rw [hs21]; exact Fm.sl Fs19 rfl
                refine wa_iinc (v := (1)) (lv' := fun y22 => [(1, .int y22), (0, .ref 84)]) (by decide) rfl (by decide) (fun _ => rfl) (fun y22 hy22 => ?_)
                have ty22 := i_addT hy22.symm
                clear hy22
                refine wa_goto o_X12_solve_175 (by decide) ?_
                refine wa_pick [1, 0] rfl ?_
                exact ih15 _ (by ((try simp only [vp_in_iff, Int32.lt_iff_toInt_lt, Int32.le_iff_toInt_le, ← Int32.toInt_inj, Int32.reduceToInt, n_1, n_2, n_8, Int32.toNatClampNeg, Int64.lt_iff_toInt_lt, Int64.le_iff_toInt_le, ← Int64.toInt_inj, Int64.reduceToInt, Int32.toInt_toInt64, lg_cmp_ge, lg_cmp_le, lg_cmp_gt, lg_cmp_lt, lg_cmp_eq, Bool.false_eq_true, Bool.true_eq_false, reduceCtorEq, false_iff, true_iff, iff_true, iff_false, and_true, true_and, and_false, false_and, reduceIte, ite_true, ite_false, eq_self] at *)) <;> omega) _ _ ⟨Fs21, ((nx_gi_sl hs21).trans ((nx_gi_sl hs19).trans (khi16_0))), ((nxq_gl_sl hs21 (by decide)).trans ((nxq_gl_sl hs19 (by decide)).trans (khi16_1))), ((nx_gi_sl hs21).trans ((nx_gi_sl hs19).trans (khi16_2))), (by ((try simp only [vp_in_iff, Int32.lt_iff_toInt_lt, Int32.le_iff_toInt_le, ← Int32.toInt_inj, Int32.reduceToInt, n_1, n_2, n_8, Int32.toNatClampNeg, Int64.lt_iff_toInt_lt, Int64.le_iff_toInt_le, ← Int64.toInt_inj, Int64.reduceToInt, Int32.toInt_toInt64, lg_cmp_ge, lg_cmp_le, lg_cmp_gt, lg_cmp_lt, lg_cmp_eq, Bool.false_eq_true, Bool.true_eq_false, reduceCtorEq, false_iff, true_iff, iff_true, iff_false, and_true, true_and, and_false, false_and, reduceIte, ite_true, ite_false, eq_self] at *)) <;> omega), trivial⟩ rfl
          exact hi16 _ _ _ ⟨Fs13, ((nx_gi_sl hs13).trans (khi8_0)), (nxe_gl_sl hs13), ((nx_gi_sl hs13).trans (khi8_2)), (by ((try simp only [vp_in_iff, Int32.lt_iff_toInt_lt, Int32.le_iff_toInt_le, ← Int32.toInt_inj, Int32.reduceToInt, n_1, n_2, n_8, Int32.toNatClampNeg, Int64.lt_iff_toInt_lt, Int64.le_iff_toInt_le, ← Int64.toInt_inj, Int64.reduceToInt, Int32.toInt_toInt64, lg_cmp_ge, lg_cmp_le, lg_cmp_gt, lg_cmp_lt, lg_cmp_eq, Bool.false_eq_true, Bool.true_eq_false, reduceCtorEq, false_iff, true_iff, iff_true, iff_false, and_true, true_and, and_false, false_and, reduceIte, ite_true, ite_false, eq_self] at *)) <;> omega), trivial⟩ rfl
      · have mh9 := nle_mx h9
        refine wa_aload_n (i := 0) rfl rfl ?_
        refine wa_Vv (d9 := d - 1) [] [] (sp_X12_layBasis G (d := d - 1) (by omega) s6  (by rw [khi8_0]; first | assumption | exact Or.inl rfl | exact Or.inr rfl | (((try simp only [vp_in_iff, Int32.lt_iff_toInt_lt, Int32.le_iff_toInt_le, ← Int32.toInt_inj, Int32.reduceToInt, n_1, n_2, n_8, Int32.toNatClampNeg, Int64.lt_iff_toInt_lt, Int64.le_iff_toInt_le, ← Int64.toInt_inj, Int64.reduceToInt, Int32.toInt_toInt64, lg_cmp_ge, lg_cmp_le, lg_cmp_gt, lg_cmp_lt, lg_cmp_eq, Bool.false_eq_true, Bool.true_eq_false, reduceCtorEq, false_iff, true_iff, iff_true, iff_false, and_true, true_and, and_false, false_and, reduceIte, ite_true, ite_false, eq_self] at *)) <;> omega))) (rfl) rfl rfl (zr (by omega)) mk_X12_layBasis ly_84 ml_12_1090 (Nat.le_of_ble_eq_true rfl) (fun s23 hs23 => ?_)
        obtain ⟨fs23, -⟩ := hs23
        have Fs23 : Fm [100, 101, 102] [164] σ s23 := Fm.tr Fs6 (Fm.wd fs23 rfl rfl)
        refine wa_iconst (v := 0) (by decide) ?_
        refine wa_istore_nD (lv' := [(2, .int 0), (0, .ref 84), (1, .int l1)]) (i := 2) rfl (by decide) rfl ?_
        refine wa_pick [1, 2, 0] rfl ?_
        have hi27 : ∀ (n9_28 : Nat) (l2 : Int32) (s25 : St), ((Fm [100, 101, 102] [164] σ s25) ∧ (gi s25 84 32 = gi σ 84 32) ∧ (gl s25 84 164 = x4) ∧ (gi s25 84 160 = gi σ 84 160) ∧ (0 ≤ l2.toInt) ∧ (True)) → (2147483647 - l2.toInt).toNat = n9_28 → WA G M_X12_solve (ZM G M_X12_solve d (fun r σ' => Fm [100, 101, 102] [164] σ σ' ∧ True)) B_X12_solve_28 [(0, .ref 84), (1, .int l1), (2, .int l2)] [] s25 := by
          intro n9_28
          induction n9_28 using Nat.strongRecOn with
          | _ n9_28 ih26 =>
            intro l2 s25 i9 m9_28
            obtain ⟨Fs25, khi27_0, khi27_1, khi27_2, jhi27_0, -⟩ := i9
            have ul2 := Int32.toInt_lt l2
            have wl2 := Int32.le_toInt l2
            refine wa_iload_n (i := 2) rfl rfl ?_
            refine wa_aload_n (i := 0) rfl rfl ?_
            refine wa_geti ck_12 fl_12_815 ly_84 ?_
            refine wa_rw (khi27_0) ?_
            refine wa_icmp_ge o_X12_solve_80 (by decide) (fun h28 => ?_) (fun h28 => ?_)
            · refine wa_aload_n (i := 0) rfl rfl ?_
              refine wa_getr ck_12 fl_12_406 ly_84 rf_84_165 ?_
              refine wa_iload_n (i := 1) rfl rfl ?_
              refine wa_aload_n (i := 0) rfl rfl ?_
              refine wa_Vl (d9 := d - 1) [] [.int l1, .ref 101] (sp_X12_determinant G (d := d - 1) (by omega) s25  (by rw [khi27_0]; first | assumption | exact Or.inl rfl | exact Or.inr rfl | (((try simp only [vp_in_iff, Int32.lt_iff_toInt_lt, Int32.le_iff_toInt_le, ← Int32.toInt_inj, Int32.reduceToInt, n_1, n_2, n_8, Int32.toNatClampNeg, Int64.lt_iff_toInt_lt, Int64.le_iff_toInt_le, ← Int64.toInt_inj, Int64.reduceToInt, Int32.toInt_toInt64, lg_cmp_ge, lg_cmp_le, lg_cmp_gt, lg_cmp_lt, lg_cmp_eq, Bool.false_eq_true, Bool.true_eq_false, reduceCtorEq, false_iff, true_iff, iff_true, iff_false, and_true, true_and, and_false, false_and, reduceIte, ite_true, ite_false, eq_self] at *)) <;> omega))) (rfl) rfl rfl (zr (by omega)) mk_X12_determinant ly_84 ml_12_1093 (Nat.le_of_ble_eq_true rfl) (fun x30 s29 hs29 => ?_)
              obtain ⟨zs29, -⟩ := pL hs29
              subst zs29
              refine wa_last ly_101 (by ((try simp only [vp_in_iff, Int32.lt_iff_toInt_lt, Int32.le_iff_toInt_le, ← Int32.toInt_inj, Int32.reduceToInt, n_1, n_2, n_8, Int32.toNatClampNeg, Int64.lt_iff_toInt_lt, Int64.le_iff_toInt_le, ← Int64.toInt_inj, Int64.reduceToInt, Int32.toInt_toInt64, lg_cmp_ge, lg_cmp_le, lg_cmp_gt, lg_cmp_lt, lg_cmp_eq, Bool.false_eq_true, Bool.true_eq_false, reduceCtorEq, false_iff, true_iff, iff_true, iff_false, and_true, true_and, and_false, false_and, reduceIte, ite_true, ite_false, eq_self] at *)) <;> omega) (fun s31 hs31 => ?_)
              have Fs31 : Fm [100, 101, 102] [164] σ s31 := by rw [hs31]; exact Fm.sl Fs25 rfl
              refine wa_aload_n (i := 0) rfl rfl ?_
              refine wa_Vv (d9 := d - 1) [] [] (sp_X12_layBasis G (d := d - 1) (by omega) s31  (by rw [(nx_gi_sl hs31).trans (khi27_0)]; first | assumption | exact Or.inl rfl | exact Or.inr rfl | (((try simp only [vp_in_iff, Int32.lt_iff_toInt_lt, Int32.le_iff_toInt_le, ← Int32.toInt_inj, Int32.reduceToInt, n_1, n_2, n_8, Int32.toNatClampNeg, Int64.lt_iff_toInt_lt, Int64.le_iff_toInt_le, ← Int64.toInt_inj, Int64.reduceToInt, Int32.toInt_toInt64, lg_cmp_ge, lg_cmp_le, lg_cmp_gt, lg_cmp_lt, lg_cmp_eq, Bool.false_eq_true, Bool.true_eq_false, reduceCtorEq, false_iff, true_iff, iff_true, iff_false, and_true, true_and, and_false, false_and, reduceIte, ite_true, ite_false, eq_self] at *)) <;> omega))) (rfl) rfl rfl (zr (by omega)) mk_X12_layBasis ly_84 ml_12_1090 (Nat.le_of_ble_eq_true rfl) (fun s32 hs32 => ?_)
              obtain ⟨fs32, -⟩ := hs32
              have Fs32 : Fm [100, 101, 102] [164] σ s32 := Fm.tr Fs31 (Fm.wd fs32 rfl rfl)
              refine wa_iconst (v := 0) (by decide) ?_
              refine wa_istore_nD (lv' := [(2, .int 0), (0, .ref 84), (1, .int l1)]) (i := 2) rfl (by decide) rfl ?_
              refine wa_pick [1, 2, 0] rfl ?_
              have hi36 : ∀ (n9_96 : Nat) (l2 : Int32) (s34 : St), ((Fm [100, 101, 102] [164] σ s34) ∧ (gi s34 84 32 = gi σ 84 32) ∧ (gl s34 84 164 = x4) ∧ (gi s34 84 160 = gi σ 84 160) ∧ (0 ≤ l2.toInt) ∧ (True)) → (2147483647 - l2.toInt).toNat = n9_96 → WA G M_X12_solve (ZM G M_X12_solve d (fun r σ' => Fm [100, 101, 102] [164] σ σ' ∧ True)) B_X12_solve_96 [(0, .ref 84), (1, .int l1), (2, .int l2)] [] s34 := by
                intro n9_96
                induction n9_96 using Nat.strongRecOn with
                | _ n9_96 ih35 =>
                  intro l2 s34 i9 m9_96
                  obtain ⟨Fs34, khi36_0, khi36_1, khi36_2, jhi36_0, -⟩ := i9
                  have ul2 := Int32.toInt_lt l2
                  have wl2 := Int32.le_toInt l2
                  refine wa_iload_n (i := 2) rfl rfl ?_
                  refine wa_aload_n (i := 0) rfl rfl ?_
                  refine wa_geti ck_12 fl_12_815 ly_84 ?_
                  refine wa_rw (khi36_0) ?_
                  refine wa_icmp_ge o_X12_solve_138 (by decide) (fun h37 => ?_) (fun h37 => ?_)
                  · refine wa_aload_n (i := 0) rfl rfl ?_
                    refine wa_getr ck_12 fl_12_409 ly_84 rf_84_166 ?_
                    refine wa_iload_n (i := 1) rfl rfl ?_
                    refine wa_aload_n (i := 0) rfl rfl ?_
                    refine wa_Vl (d9 := d - 1) [] [.int l1, .ref 100] (sp_X12_determinant G (d := d - 1) (by omega) s34  (by rw [khi36_0]; first | assumption | exact Or.inl rfl | exact Or.inr rfl | (((try simp only [vp_in_iff, Int32.lt_iff_toInt_lt, Int32.le_iff_toInt_le, ← Int32.toInt_inj, Int32.reduceToInt, n_1, n_2, n_8, Int32.toNatClampNeg, Int64.lt_iff_toInt_lt, Int64.le_iff_toInt_le, ← Int64.toInt_inj, Int64.reduceToInt, Int32.toInt_toInt64, lg_cmp_ge, lg_cmp_le, lg_cmp_gt, lg_cmp_lt, lg_cmp_eq, Bool.false_eq_true, Bool.true_eq_false, reduceCtorEq, false_iff, true_iff, iff_true, iff_false, and_true, true_and, and_false, false_and, reduceIte, ite_true, ite_false, eq_self] at *)) <;> omega))) (rfl) rfl rfl (zr (by omega)) mk_X12_determinant ly_84 ml_12_1093 (Nat.le_of_ble_eq_true rfl) (fun x39 s38 hs38 => ?_)
                    obtain ⟨zs38, -⟩ := pL hs38
                    subst zs38
                    refine wa_last ly_100 (by ((try simp only [vp_in_iff, Int32.lt_iff_toInt_lt, Int32.le_iff_toInt_le, ← Int32.toInt_inj, Int32.reduceToInt, n_1, n_2, n_8, Int32.toNatClampNeg, Int64.lt_iff_toInt_lt, Int64.le_iff_toInt_le, ← Int64.toInt_inj, Int64.reduceToInt, Int32.toInt_toInt64, lg_cmp_ge, lg_cmp_le, lg_cmp_gt, lg_cmp_lt, lg_cmp_eq, Bool.false_eq_true, Bool.true_eq_false, reduceCtorEq, false_iff, true_iff, iff_true, iff_false, and_true, true_and, and_false, false_and, reduceIte, ite_true, ite_false, eq_self] at *)) <;> omega) (fun s40 hs40 => ?_)
                    have Fs40 : Fm [100, 101, 102] [164] σ s40 := by rw [hs40]; exact Fm.sl Fs34 rfl
                    refine wa_iinc (v := (1)) (lv' := fun y41 => [(1, .int y41), (0, .ref 84), (2, .int l2)]) (by decide) rfl (by decide) (fun _ => rfl) (fun y41 hy41 => ?_)
                    have ty41 := i_addT hy41.symm
                    clear hy41
                    refine wa_goto o_X12_solve_14 (by decide) ?_
                    refine wa_pick [1, 0] rfl ?_
                    exact ih7 _ (by ((try simp only [vp_in_iff, Int32.lt_iff_toInt_lt, Int32.le_iff_toInt_le, ← Int32.toInt_inj, Int32.reduceToInt, n_1, n_2, n_8, Int32.toNatClampNeg, Int64.lt_iff_toInt_lt, Int64.le_iff_toInt_le, ← Int64.toInt_inj, Int64.reduceToInt, Int32.toInt_toInt64, lg_cmp_ge, lg_cmp_le, lg_cmp_gt, lg_cmp_lt, lg_cmp_eq, Bool.false_eq_true, Bool.true_eq_false, reduceCtorEq, false_iff, true_iff, iff_true, iff_false, and_true, true_and, and_false, false_and, reduceIte, ite_true, ite_false, eq_self] at *)) <;> omega) _ _ ⟨Fs40, ((nx_gi_sl hs40).trans (khi36_0)), ((nxq_gl_sl hs40 (by decide)).trans (khi36_1)), ((nx_gi_sl hs40).trans (khi36_2)), (by ((try simp only [vp_in_iff, Int32.lt_iff_toInt_lt, Int32.le_iff_toInt_le, ← Int32.toInt_inj, Int32.reduceToInt, n_1, n_2, n_8, Int32.toNatClampNeg, Int64.lt_iff_toInt_lt, Int64.le_iff_toInt_le, ← Int64.toInt_inj, Int64.reduceToInt, Int32.toInt_toInt64, lg_cmp_ge, lg_cmp_le, lg_cmp_gt, lg_cmp_lt, lg_cmp_eq, Bool.false_eq_true, Bool.true_eq_false, reduceCtorEq, false_iff, true_iff, iff_true, iff_false, and_true, true_and, and_false, false_and, reduceIte, ite_true, ite_false, eq_self] at *)) <;> omega), trivial⟩ rfl
                  · have mh37 := nle_mx h37
                    refine wa_aload_n (i := 0) rfl rfl ?_
                    refine wa_getr ck_12 fl_12_403 ly_84 rf_84_163 ?_
                    refine wa_iconst (v := 4) (by decide) ?_
                    refine wa_iload_n (i := 2) rfl rfl ?_
                    refine wa_imul ?_
                    refine wa_top (fun v42 hv42 => ?_)
                    have tv42 := i_mulT hv42
                    clear hv42
                    refine wa_iload_n (i := 1) rfl rfl ?_
                    refine wa_iadd ?_
                    refine wa_top (fun v43 hv43 => ?_)
                    have tv43 := i_addT hv43
                    clear hv43
                    refine wa_aload_n (i := 0) rfl rfl ?_
                    refine wa_getr ck_12 fl_12_400 ly_84 rf_84_162 ?_
                    refine wa_iload_n (i := 2) rfl rfl ?_
                    refine wa_iald ly_103 (by ((try simp only [vp_in_iff, Int32.lt_iff_toInt_lt, Int32.le_iff_toInt_le, ← Int32.toInt_inj, Int32.reduceToInt, n_1, n_2, n_8, Int32.toNatClampNeg, Int64.lt_iff_toInt_lt, Int64.le_iff_toInt_le, ← Int64.toInt_inj, Int64.reduceToInt, Int32.toInt_toInt64, lg_cmp_ge, lg_cmp_le, lg_cmp_gt, lg_cmp_lt, lg_cmp_eq, Bool.false_eq_true, Bool.true_eq_false, reduceCtorEq, false_iff, true_iff, iff_true, iff_false, and_true, true_and, and_false, false_and, reduceIte, ite_true, ite_false, eq_self] at *)) <;> omega) ?_
                    refine wa_aload_n (i := 0) rfl rfl ?_
                    refine wa_geti ck_12 fl_12_1067 ly_84 ?_
                    refine wa_rw (khi36_2) ?_
                    refine wa_icmp_ge o_X12_solve_130 (by decide) (fun h44 => ?_) (fun h44 => ?_)
                    · refine wa_lconst (v := 1) (by decide) ?_
                      refine wa_last ly_102 (by ((try simp only [vp_in_iff, Int32.lt_iff_toInt_lt, Int32.le_iff_toInt_le, ← Int32.toInt_inj, Int32.reduceToInt, n_1, n_2, n_8, Int32.toNatClampNeg, Int64.lt_iff_toInt_lt, Int64.le_iff_toInt_le, ← Int64.toInt_inj, Int64.reduceToInt, Int32.toInt_toInt64, lg_cmp_ge, lg_cmp_le, lg_cmp_gt, lg_cmp_lt, lg_cmp_eq, Bool.false_eq_true, Bool.true_eq_false, reduceCtorEq, false_iff, true_iff, iff_true, iff_false, and_true, true_and, and_false, false_and, reduceIte, ite_true, ite_false, eq_self] at *)) <;> omega) (fun s45 hs45 => ?_)
                      have Fs45 : Fm [100, 101, 102] [164] σ s45 := by rw [hs45]; exact Fm.sl Fs34 rfl
                      refine wa_iinc (v := (1)) (lv' := fun y46 => [(2, .int y46), (0, .ref 84), (1, .int l1)]) (by decide) rfl (by decide) (fun _ => rfl) (fun y46 hy46 => ?_)
                      have ty46 := i_addT hy46.symm
                      clear hy46
                      refine wa_goto o_X12_solve_96 (by decide) ?_
                      refine wa_pick [1, 2, 0] rfl ?_
                      exact ih35 _ (by ((try simp only [vp_in_iff, Int32.lt_iff_toInt_lt, Int32.le_iff_toInt_le, ← Int32.toInt_inj, Int32.reduceToInt, n_1, n_2, n_8, Int32.toNatClampNeg, Int64.lt_iff_toInt_lt, Int64.le_iff_toInt_le, ← Int64.toInt_inj, Int64.reduceToInt, Int32.toInt_toInt64, lg_cmp_ge, lg_cmp_le, lg_cmp_gt, lg_cmp_lt, lg_cmp_eq, Bool.false_eq_true, Bool.true_eq_false, reduceCtorEq, false_iff, true_iff, iff_true, iff_false, and_true, true_and, and_false, false_and, reduceIte, ite_true, ite_false, eq_self] at *)) <;> omega) _ _ ⟨Fs45, ((nx_gi_sl hs45).trans (khi36_0)), ((nxq_gl_sl hs45 (by decide)).trans (khi36_1)), ((nx_gi_sl hs45).trans (khi36_2)), (by ((try simp only [vp_in_iff, Int32.lt_iff_toInt_lt, Int32.le_iff_toInt_le, ← Int32.toInt_inj, Int32.reduceToInt, n_1, n_2, n_8, Int32.toNatClampNeg, Int64.lt_iff_toInt_lt, Int64.le_iff_toInt_le, ← Int64.toInt_inj, Int64.reduceToInt, Int32.toInt_toInt64, lg_cmp_ge, lg_cmp_le, lg_cmp_gt, lg_cmp_lt, lg_cmp_eq, Bool.false_eq_true, Bool.true_eq_false, reduceCtorEq, false_iff, true_iff, iff_true, iff_false, and_true, true_and, and_false, false_and, reduceIte, ite_true, ite_false, eq_self] at *)) <;> omega), trivial⟩ rfl
                    · have mh44 := nle_mx h44
                      refine wa_lconst (v := 0) (by decide) ?_
                      refine wa_goto o_X12_solve_131 (by decide) ?_
                      refine wa_last ly_102 (by ((try simp only [vp_in_iff, Int32.lt_iff_toInt_lt, Int32.le_iff_toInt_le, ← Int32.toInt_inj, Int32.reduceToInt, n_1, n_2, n_8, Int32.toNatClampNeg, Int64.lt_iff_toInt_lt, Int64.le_iff_toInt_le, ← Int64.toInt_inj, Int64.reduceToInt, Int32.toInt_toInt64, lg_cmp_ge, lg_cmp_le, lg_cmp_gt, lg_cmp_lt, lg_cmp_eq, Bool.false_eq_true, Bool.true_eq_false, reduceCtorEq, false_iff, true_iff, iff_true, iff_false, and_true, true_and, and_false, false_and, reduceIte, ite_true, ite_false, eq_self] at *)) <;> omega) (fun s47 hs47 => ?_)
                      have Fs47 : Fm [100, 101, 102] [164] σ s47 := by rw [hs47]; exact Fm.sl Fs34 rfl
                      refine wa_iinc (v := (1)) (lv' := fun y48 => [(2, .int y48), (0, .ref 84), (1, .int l1)]) (by decide) rfl (by decide) (fun _ => rfl) (fun y48 hy48 => ?_)
                      have ty48 := i_addT hy48.symm
                      clear hy48
                      refine wa_goto o_X12_solve_96 (by decide) ?_
                      refine wa_pick [1, 2, 0] rfl ?_
                      exact ih35 _ (by ((try simp only [vp_in_iff, Int32.lt_iff_toInt_lt, Int32.le_iff_toInt_le, ← Int32.toInt_inj, Int32.reduceToInt, n_1, n_2, n_8, Int32.toNatClampNeg, Int64.lt_iff_toInt_lt, Int64.le_iff_toInt_le, ← Int64.toInt_inj, Int64.reduceToInt, Int32.toInt_toInt64, lg_cmp_ge, lg_cmp_le, lg_cmp_gt, lg_cmp_lt, lg_cmp_eq, Bool.false_eq_true, Bool.true_eq_false, reduceCtorEq, false_iff, true_iff, iff_true, iff_false, and_true, true_and, and_false, false_and, reduceIte, ite_true, ite_false, eq_self] at *)) <;> omega) _ _ ⟨Fs47, ((nx_gi_sl hs47).trans (khi36_0)), ((nxq_gl_sl hs47 (by decide)).trans (khi36_1)), ((nx_gi_sl hs47).trans (khi36_2)), (by ((try simp only [vp_in_iff, Int32.lt_iff_toInt_lt, Int32.le_iff_toInt_le, ← Int32.toInt_inj, Int32.reduceToInt, n_1, n_2, n_8, Int32.toNatClampNeg, Int64.lt_iff_toInt_lt, Int64.le_iff_toInt_le, ← Int64.toInt_inj, Int64.reduceToInt, Int32.toInt_toInt64, lg_cmp_ge, lg_cmp_le, lg_cmp_gt, lg_cmp_lt, lg_cmp_eq, Bool.false_eq_true, Bool.true_eq_false, reduceCtorEq, false_iff, true_iff, iff_true, iff_false, and_true, true_and, and_false, false_and, reduceIte, ite_true, ite_false, eq_self] at *)) <;> omega), trivial⟩ rfl
              exact hi36 _ _ _ ⟨Fs32, ((Fm.gi fs32 (q := 84) (k := 32) rfl rfl).trans ((nx_gi_sl hs31).trans (khi27_0))), ((Fm.gl fs32 (q := 84) (k := 164) rfl rfl).trans ((nxq_gl_sl hs31 (by decide)).trans (khi27_1))), ((Fm.gi fs32 (q := 84) (k := 160) rfl rfl).trans ((nx_gi_sl hs31).trans (khi27_2))), (by ((try simp only [vp_in_iff, Int32.lt_iff_toInt_lt, Int32.le_iff_toInt_le, ← Int32.toInt_inj, Int32.reduceToInt, n_1, n_2, n_8, Int32.toNatClampNeg, Int64.lt_iff_toInt_lt, Int64.le_iff_toInt_le, ← Int64.toInt_inj, Int64.reduceToInt, Int32.toInt_toInt64, lg_cmp_ge, lg_cmp_le, lg_cmp_gt, lg_cmp_lt, lg_cmp_eq, Bool.false_eq_true, Bool.true_eq_false, reduceCtorEq, false_iff, true_iff, iff_true, iff_false, and_true, true_and, and_false, false_and, reduceIte, ite_true, ite_false, eq_self] at *)) <;> omega), trivial⟩ rfl
            · have mh28 := nle_mx h28
              refine wa_aload_n (i := 0) rfl rfl ?_
              refine wa_getr ck_12 fl_12_403 ly_84 rf_84_163 ?_
              refine wa_iconst (v := 4) (by decide) ?_
              refine wa_iload_n (i := 2) rfl rfl ?_
              refine wa_imul ?_
              refine wa_top (fun v49 hv49 => ?_)
              have tv49 := i_mulT hv49
              clear hv49
              refine wa_iload_n (i := 1) rfl rfl ?_
              refine wa_iadd ?_
              refine wa_top (fun v50 hv50 => ?_)
              have tv50 := i_addT hv50
              clear hv50
              refine wa_aload_n (i := 0) rfl rfl ?_
              refine wa_getr ck_12 fl_12_400 ly_84 rf_84_162 ?_
              refine wa_iload_n (i := 2) rfl rfl ?_
              refine wa_iald ly_103 (by ((try simp only [vp_in_iff, Int32.lt_iff_toInt_lt, Int32.le_iff_toInt_le, ← Int32.toInt_inj, Int32.reduceToInt, n_1, n_2, n_8, Int32.toNatClampNeg, Int64.lt_iff_toInt_lt, Int64.le_iff_toInt_le, ← Int64.toInt_inj, Int64.reduceToInt, Int32.toInt_toInt64, lg_cmp_ge, lg_cmp_le, lg_cmp_gt, lg_cmp_lt, lg_cmp_eq, Bool.false_eq_true, Bool.true_eq_false, reduceCtorEq, false_iff, true_iff, iff_true, iff_false, and_true, true_and, and_false, false_and, reduceIte, ite_true, ite_false, eq_self] at *)) <;> omega) ?_
              refine wa_aload_n (i := 0) rfl rfl ?_
              refine wa_geti ck_12 fl_12_1067 ly_84 ?_
              refine wa_rw (khi27_2) ?_
              refine wa_icmp_ge o_X12_solve_72 (by decide) (fun h51 => ?_) (fun h51 => ?_)
              · refine wa_lconst (v := 0) (by decide) ?_
                refine wa_last ly_102 (by ((try simp only [vp_in_iff, Int32.lt_iff_toInt_lt, Int32.le_iff_toInt_le, ← Int32.toInt_inj, Int32.reduceToInt, n_1, n_2, n_8, Int32.toNatClampNeg, Int64.lt_iff_toInt_lt, Int64.le_iff_toInt_le, ← Int64.toInt_inj, Int64.reduceToInt, Int32.toInt_toInt64, lg_cmp_ge, lg_cmp_le, lg_cmp_gt, lg_cmp_lt, lg_cmp_eq, Bool.false_eq_true, Bool.true_eq_false, reduceCtorEq, false_iff, true_iff, iff_true, iff_false, and_true, true_and, and_false, false_and, reduceIte, ite_true, ite_false, eq_self] at *)) <;> omega) (fun s52 hs52 => ?_)
                have Fs52 : Fm [100, 101, 102] [164] σ s52 := by rw [hs52]; exact Fm.sl Fs25 rfl
                refine wa_iinc (v := (1)) (lv' := fun y53 => [(2, .int y53), (0, .ref 84), (1, .int l1)]) (by decide) rfl (by decide) (fun _ => rfl) (fun y53 hy53 => ?_)
                have ty53 := i_addT hy53.symm
                clear hy53
                refine wa_goto o_X12_solve_28 (by decide) ?_
                refine wa_pick [1, 2, 0] rfl ?_
                exact ih26 _ (by ((try simp only [vp_in_iff, Int32.lt_iff_toInt_lt, Int32.le_iff_toInt_le, ← Int32.toInt_inj, Int32.reduceToInt, n_1, n_2, n_8, Int32.toNatClampNeg, Int64.lt_iff_toInt_lt, Int64.le_iff_toInt_le, ← Int64.toInt_inj, Int64.reduceToInt, Int32.toInt_toInt64, lg_cmp_ge, lg_cmp_le, lg_cmp_gt, lg_cmp_lt, lg_cmp_eq, Bool.false_eq_true, Bool.true_eq_false, reduceCtorEq, false_iff, true_iff, iff_true, iff_false, and_true, true_and, and_false, false_and, reduceIte, ite_true, ite_false, eq_self] at *)) <;> omega) _ _ ⟨Fs52, ((nx_gi_sl hs52).trans (khi27_0)), ((nxq_gl_sl hs52 (by decide)).trans (khi27_1)), ((nx_gi_sl hs52).trans (khi27_2)), (by ((try simp only [vp_in_iff, Int32.lt_iff_toInt_lt, Int32.le_iff_toInt_le, ← Int32.toInt_inj, Int32.reduceToInt, n_1, n_2, n_8, Int32.toNatClampNeg, Int64.lt_iff_toInt_lt, Int64.le_iff_toInt_le, ← Int64.toInt_inj, Int64.reduceToInt, Int32.toInt_toInt64, lg_cmp_ge, lg_cmp_le, lg_cmp_gt, lg_cmp_lt, lg_cmp_eq, Bool.false_eq_true, Bool.true_eq_false, reduceCtorEq, false_iff, true_iff, iff_true, iff_false, and_true, true_and, and_false, false_and, reduceIte, ite_true, ite_false, eq_self] at *)) <;> omega), trivial⟩ rfl
              · have mh51 := nle_mx h51
                refine wa_aload_n (i := 0) rfl rfl ?_
                refine wa_getr ck_12 fl_12_397 ly_84 rf_84_159 ?_
                refine wa_aload_n (i := 0) rfl rfl ?_
                refine wa_getr ck_12 fl_12_400 ly_84 rf_84_162 ?_
                refine wa_iload_n (i := 2) rfl rfl ?_
                refine wa_iald ly_103 (by ((try simp only [vp_in_iff, Int32.lt_iff_toInt_lt, Int32.le_iff_toInt_le, ← Int32.toInt_inj, Int32.reduceToInt, n_1, n_2, n_8, Int32.toNatClampNeg, Int64.lt_iff_toInt_lt, Int64.le_iff_toInt_le, ← Int64.toInt_inj, Int64.reduceToInt, Int32.toInt_toInt64, lg_cmp_ge, lg_cmp_le, lg_cmp_gt, lg_cmp_lt, lg_cmp_eq, Bool.false_eq_true, Bool.true_eq_false, reduceCtorEq, false_iff, true_iff, iff_true, iff_false, and_true, true_and, and_false, false_and, reduceIte, ite_true, ite_false, eq_self] at *)) <;> omega) ?_
                refine wa_lald ly_104 (by ((try simp only [vp_in_iff, Int32.lt_iff_toInt_lt, Int32.le_iff_toInt_le, ← Int32.toInt_inj, Int32.reduceToInt, n_1, n_2, n_8, Int32.toNatClampNeg, Int64.lt_iff_toInt_lt, Int64.le_iff_toInt_le, ← Int64.toInt_inj, Int64.reduceToInt, Int32.toInt_toInt64, lg_cmp_ge, lg_cmp_le, lg_cmp_gt, lg_cmp_lt, lg_cmp_eq, Bool.false_eq_true, Bool.true_eq_false, reduceCtorEq, false_iff, true_iff, iff_true, iff_false, and_true, true_and, and_false, false_and, reduceIte, ite_true, ite_false, eq_self] at *)) <;> omega) ?_
                refine wa_goto o_X12_solve_73 (by decide) ?_
                refine wa_last ly_102 (by ((try simp only [vp_in_iff, Int32.lt_iff_toInt_lt, Int32.le_iff_toInt_le, ← Int32.toInt_inj, Int32.reduceToInt, n_1, n_2, n_8, Int32.toNatClampNeg, Int64.lt_iff_toInt_lt, Int64.le_iff_toInt_le, ← Int64.toInt_inj, Int64.reduceToInt, Int32.toInt_toInt64, lg_cmp_ge, lg_cmp_le, lg_cmp_gt, lg_cmp_lt, lg_cmp_eq, Bool.false_eq_true, Bool.true_eq_false, reduceCtorEq, false_iff, true_iff, iff_true, iff_false, and_true, true_and, and_false, false_and, reduceIte, ite_true, ite_false, eq_self] at *)) <;> omega) (fun s54 hs54 => ?_)
                have Fs54 : Fm [100, 101, 102] [164] σ s54 := by rw [hs54]; exact Fm.sl Fs25 rfl
                refine wa_iinc (v := (1)) (lv' := fun y55 => [(2, .int y55), (0, .ref 84), (1, .int l1)]) (by decide) rfl (by decide) (fun _ => rfl) (fun y55 hy55 => ?_)
                have ty55 := i_addT hy55.symm
                clear hy55
                refine wa_goto o_X12_solve_28 (by decide) ?_
                refine wa_pick [1, 2, 0] rfl ?_
                exact ih26 _ (by ((try simp only [vp_in_iff, Int32.lt_iff_toInt_lt, Int32.le_iff_toInt_le, ← Int32.toInt_inj, Int32.reduceToInt, n_1, n_2, n_8, Int32.toNatClampNeg, Int64.lt_iff_toInt_lt, Int64.le_iff_toInt_le, ← Int64.toInt_inj, Int64.reduceToInt, Int32.toInt_toInt64, lg_cmp_ge, lg_cmp_le, lg_cmp_gt, lg_cmp_lt, lg_cmp_eq, Bool.false_eq_true, Bool.true_eq_false, reduceCtorEq, false_iff, true_iff, iff_true, iff_false, and_true, true_and, and_false, false_and, reduceIte, ite_true, ite_false, eq_self] at *)) <;> omega) _ _ ⟨Fs54, ((nx_gi_sl hs54).trans (khi27_0)), ((nxq_gl_sl hs54 (by decide)).trans (khi27_1)), ((nx_gi_sl hs54).trans (khi27_2)), (by ((try simp only [vp_in_iff, Int32.lt_iff_toInt_lt, Int32.le_iff_toInt_le, ← Int32.toInt_inj, Int32.reduceToInt, n_1, n_2, n_8, Int32.toNatClampNeg, Int64.lt_iff_toInt_lt, Int64.le_iff_toInt_le, ← Int64.toInt_inj, Int64.reduceToInt, Int32.toInt_toInt64, lg_cmp_ge, lg_cmp_le, lg_cmp_gt, lg_cmp_lt, lg_cmp_eq, Bool.false_eq_true, Bool.true_eq_false, reduceCtorEq, false_iff, true_iff, iff_true, iff_false, and_true, true_and, and_false, false_and, reduceIte, ite_true, ite_false, eq_self] at *)) <;> omega), trivial⟩ rfl
        exact hi27 _ _ _ ⟨Fs23, ((Fm.gi fs23 (q := 84) (k := 32) rfl rfl).trans (khi8_0)), ((Fm.gl fs23 (q := 84) (k := 164) rfl rfl).trans (khi8_1)), ((Fm.gi fs23 (q := 84) (k := 160) rfl rfl).trans (khi8_2)), (by ((try simp only [vp_in_iff, Int32.lt_iff_toInt_lt, Int32.le_iff_toInt_le, ← Int32.toInt_inj, Int32.reduceToInt, n_1, n_2, n_8, Int32.toNatClampNeg, Int64.lt_iff_toInt_lt, Int64.le_iff_toInt_le, ← Int64.toInt_inj, Int64.reduceToInt, Int32.toInt_toInt64, lg_cmp_ge, lg_cmp_le, lg_cmp_gt, lg_cmp_lt, lg_cmp_eq, Bool.false_eq_true, Bool.true_eq_false, reduceCtorEq, false_iff, true_iff, iff_true, iff_false, and_true, true_and, and_false, false_and, reduceIte, ite_true, ite_false, eq_self] at *)) <;> omega), trivial⟩ rfl
  exact hi8 _ _ _ ⟨Fs5, ((nx_gi_sl hs5).trans (Fm.gi fs1 (q := 84) (k := 32) rfl rfl)), (nxe_gl_sl hs5), ((nx_gi_sl hs5).trans (Fm.gi fs1 (q := 84) (k := 160) rfl rfl)), (by ((try simp only [vp_in_iff, Int32.lt_iff_toInt_lt, Int32.le_iff_toInt_le, ← Int32.toInt_inj, Int32.reduceToInt, n_1, n_2, n_8, Int32.toNatClampNeg, Int64.lt_iff_toInt_lt, Int64.le_iff_toInt_le, ← Int64.toInt_inj, Int64.reduceToInt, Int32.toInt_toInt64, lg_cmp_ge, lg_cmp_le, lg_cmp_gt, lg_cmp_lt, lg_cmp_eq, Bool.false_eq_true, Bool.true_eq_false, reduceCtorEq, false_iff, true_iff, iff_true, iff_false, and_true, true_and, and_false, false_and, reduceIte, ite_true, ite_false, eq_self] at *)) <;> omega), trivial⟩ rfl
set_option maxHeartbeats 4000000 in
theorem sp_X12_multiply (G : kG9) {d : Nat} (hd : 0 ≤ d) (σ : St) (a0 : Int64) (a1 : Int64) : Ct G M_X12_multiply d [.ref 84, .long a0, .long a1] σ (fun r σ' => Fm [] [167, 168] σ σ' ∧ True) := by
  refine wa_start (by decide) rfl (Nat.le_of_ble_eq_true rfl) (lv := [(0, .ref 84), (1, .long a0), (3, .long a1)]) rfl o_X12_multiply_0 rfl ?_
  refine wa_lload_n (i := 1) rfl rfl ?_
  refine wa_bipush (v := 32) (by decide) ?_
  refine wa_lshr ?_
  refine wa_topl (fun v1 hv1 => ?_)
  clear hv1
  refine wa_lstoreD (lv' := [(5, .long v1), (0, .ref 84), (1, .long a0), (3, .long a1)]) (by decide) rfl ?_
  refine wa_lload_n (i := 1) rfl rfl ?_
  refine wa_ldc2 (v := (4294967295)) (allW_in (kT_15 _ (List.mem_of_getElem? (i := 68) rfl)) rfl) ?_
  refine wa_land ?_
  refine wa_topl (fun v2 hv2 => ?_)
  clear hv2
  refine wa_lstoreD (lv' := [(7, .long v2), (5, .long v1), (0, .ref 84), (1, .long a0), (3, .long a1)]) (by decide) rfl ?_
  refine wa_lload_n (i := 3) rfl rfl ?_
  refine wa_bipush (v := 32) (by decide) ?_
  refine wa_lshr ?_
  refine wa_topl (fun v3 hv3 => ?_)
  clear hv3
  refine wa_lstoreD (lv' := [(9, .long v3), (7, .long v2), (5, .long v1), (0, .ref 84), (1, .long a0), (3, .long a1)]) (by decide) rfl ?_
  refine wa_lload_n (i := 3) rfl rfl ?_
  refine wa_ldc2 (v := (4294967295)) (allW_in (kT_15 _ (List.mem_of_getElem? (i := 68) rfl)) rfl) ?_
  refine wa_land ?_
  refine wa_topl (fun v4 hv4 => ?_)
  clear hv4
  refine wa_lstoreD (lv' := [(11, .long v4), (9, .long v3), (7, .long v2), (5, .long v1), (0, .ref 84), (1, .long a0), (3, .long a1)]) (by decide) rfl ?_
  refine wa_lload rfl ?_
  refine wa_lload rfl ?_
  refine wa_lmul ?_
  refine wa_topl (fun v5 hv5 => ?_)
  have tv5 := m_l_remU hv5
  clear hv5
  refine wa_lstoreD (lv' := [(13, .long v5), (11, .long v4), (9, .long v3), (7, .long v2), (5, .long v1), (0, .ref 84), (1, .long a0), (3, .long a1)]) (by decide) rfl ?_
  refine wa_lload rfl ?_
  refine wa_lload rfl ?_
  refine wa_lmul ?_
  refine wa_topl (fun v6 hv6 => ?_)
  have tv6 := m_l_remU hv6
  clear hv6
  refine wa_lload rfl ?_
  refine wa_bipush (v := 32) (by decide) ?_
  refine wa_lushr ?_
  refine wa_topl (fun v7 hv7 => ?_)
  clear hv7
  refine wa_ladd ?_
  refine wa_topl (fun v8 hv8 => ?_)
  have tv8 := a_l_remU hv8
  clear hv8
  refine wa_lstoreD (lv' := [(15, .long v8), (13, .long v5), (11, .long v4), (9, .long v3), (7, .long v2), (5, .long v1), (0, .ref 84), (1, .long a0), (3, .long a1)]) (by decide) rfl ?_
  refine wa_lload rfl ?_
  refine wa_lload rfl ?_
  refine wa_lmul ?_
  refine wa_topl (fun v9 hv9 => ?_)
  have tv9 := m_l_remU hv9
  clear hv9
  refine wa_lload rfl ?_
  refine wa_ldc2 (v := (4294967295)) (allW_in (kT_15 _ (List.mem_of_getElem? (i := 68) rfl)) rfl) ?_
  refine wa_land ?_
  refine wa_topl (fun v10 hv10 => ?_)
  clear hv10
  refine wa_ladd ?_
  refine wa_topl (fun v11 hv11 => ?_)
  have tv11 := a_l_remU hv11
  clear hv11
  refine wa_lstoreD (lv' := [(17, .long v11), (15, .long v8), (13, .long v5), (11, .long v4), (9, .long v3), (7, .long v2), (5, .long v1), (0, .ref 84), (1, .long a0), (3, .long a1)]) (by decide) rfl ?_
  refine wa_aload_n (i := 0) rfl rfl ?_
  refine wa_lload rfl ?_
  refine wa_lload rfl ?_
  refine wa_lmul ?_
  refine wa_topl (fun v12 hv12 => ?_)
  have tv12 := m_l_remU hv12
  clear hv12
  refine wa_lload rfl ?_
  refine wa_bipush (v := 32) (by decide) ?_
  refine wa_lshr ?_
  refine wa_topl (fun v13 hv13 => ?_)
  clear hv13
  refine wa_ladd ?_
  refine wa_topl (fun v14 hv14 => ?_)
  have tv14 := a_l_remU hv14
  clear hv14
  refine wa_lload rfl ?_
  refine wa_bipush (v := 32) (by decide) ?_
  refine wa_lshr ?_
  refine wa_topl (fun v15 hv15 => ?_)
  clear hv15
  refine wa_ladd ?_
  refine wa_topl (fun v16 hv16 => ?_)
  have tv16 := a_l_remU hv16
  clear hv16
  refine wa_putl ck_12 fl_12_1102 ly_84 (fun s17 hs17 => ?_)
  have Fs17 : Fm [] [167, 168] σ s17 := by rw [hs17]; exact Fm.sl (Fm.rf [] [167, 168] σ) rfl
  refine wa_aload_n (i := 0) rfl rfl ?_
  refine wa_lload_n (i := 1) rfl rfl ?_
  refine wa_lload_n (i := 3) rfl rfl ?_
  refine wa_lmul ?_
  refine wa_topl (fun v18 hv18 => ?_)
  have tv18 := m_l_remU hv18
  clear hv18
  refine wa_putl ck_12 fl_12_1105 ly_84 (fun s19 hs19 => ?_)
  have Fs19 : Fm [] [167, 168] σ s19 := by rw [hs19]; exact Fm.sl Fs17 rfl
  refine wa_return (st := []) rfl rfl ?_
  exact ⟨Fs19, trivial⟩
set_option maxHeartbeats 4000000 in
theorem sp_X12_compare (G : kG9) {d : Nat} (hd : 1 ≤ d) (σ : St) (a0 : Int64) (a1 : Int64) (a2 : Int64) (a3 : Int64) : Ct G M_X12_compare d [.ref 84, .long a0, .long a1, .long a2, .long a3] σ (fun r σ' => ∃ x : Int32, r = some (.int x) ∧ Fm [] [167, 168] σ σ' ∧ True) := by
  refine wa_start (by decide) rfl (Nat.le_of_ble_eq_true rfl) (lv := [(0, .ref 84), (1, .long a0), (3, .long a1), (5, .long a2), (7, .long a3)]) rfl o_X12_compare_0 rfl ?_
  refine wa_aload_n (i := 0) rfl rfl ?_
  refine wa_lload_n (i := 1) rfl rfl ?_
  refine wa_lload_n (i := 3) rfl rfl ?_
  refine wa_Vv (d9 := d - 1) [.long _, .long _] [] (sp_X12_multiply G (d := d - 1) (by omega) σ _ _) (rfl) rfl rfl (zr (by omega)) mk_X12_multiply ly_84 ml_12_1108 (Nat.le_of_ble_eq_true rfl) (fun s1 hs1 => ?_)
  obtain ⟨fs1, -⟩ := hs1
  have Fs1 : Fm [] [167, 168] σ s1 := Fm.tr (Fm.rf [] [167, 168] σ) (Fm.wd fs1 rfl rfl)
  refine wa_aload_n (i := 0) rfl rfl ?_
  refine wa_getl ck_12 fl_12_1102 ly_84 ?_
  refine wa_lstoreD (lv' := [(9, .long (gl s1 84 167)), (0, .ref 84), (1, .long a0), (3, .long a1), (5, .long a2), (7, .long a3)]) (by decide) rfl ?_
  refine wa_aload_n (i := 0) rfl rfl ?_
  refine wa_getl ck_12 fl_12_1105 ly_84 ?_
  refine wa_lstoreD (lv' := [(11, .long (gl s1 84 168)), (9, .long (gl s1 84 167)), (0, .ref 84), (1, .long a0), (3, .long a1), (5, .long a2), (7, .long a3)]) (by decide) rfl ?_
  refine wa_aload_n (i := 0) rfl rfl ?_
  refine wa_lload rfl ?_
  refine wa_lload rfl ?_
  refine wa_Vv (d9 := d - 1) [.long _, .long _] [] (sp_X12_multiply G (d := d - 1) (by omega) s1 _ _) (rfl) rfl rfl (zr (by omega)) mk_X12_multiply ly_84 ml_12_1108 (Nat.le_of_ble_eq_true rfl) (fun s3 hs3 => ?_)
  obtain ⟨fs3, -⟩ := hs3
  have Fs3 : Fm [] [167, 168] σ s3 := Fm.tr Fs1 (Fm.wd fs3 rfl rfl)
  refine wa_lload rfl ?_
  refine wa_aload_n (i := 0) rfl rfl ?_
  refine wa_getl ck_12 fl_12_1102 ly_84 ?_
  refine wa_lcmp ?_
  refine wa_top (fun v5 hv5 => ?_)
  have tv5 := i_cmpT hv5
  clear hv5
  refine wa_if_eq o_X12_compare_52 (by decide) (fun h6 => ?_) (fun h6 => ?_)
  · refine wa_lload rfl ?_
    refine wa_aload_n (i := 0) rfl rfl ?_
    refine wa_getl ck_12 fl_12_1105 ly_84 ?_
    refine wa_lcmp ?_
    refine wa_top (fun v7 hv7 => ?_)
    have tv7 := i_cmpT hv7
    clear hv7
    refine wa_if_ne o_X12_compare_66 (by decide) (fun h8 => ?_) (fun h8 => ?_)
    · refine wa_lload rfl ?_
      refine wa_ldc2 (v := (-9223372036854775808)) (allW_in (kT_14 _ (List.mem_of_getElem? (i := 167) rfl)) rfl) ?_
      refine wa_lxor ?_
      refine wa_topl (fun v9 hv9 => ?_)
      clear hv9
      refine wa_aload_n (i := 0) rfl rfl ?_
      refine wa_getl ck_12 fl_12_1105 ly_84 ?_
      refine wa_ldc2 (v := (-9223372036854775808)) (allW_in (kT_14 _ (List.mem_of_getElem? (i := 167) rfl)) rfl) ?_
      refine wa_lxor ?_
      refine wa_topl (fun v10 hv10 => ?_)
      clear hv10
      refine wa_lcmp ?_
      refine wa_top (fun v11 hv11 => ?_)
      have tv11 := i_cmpT hv11
      clear hv11
      refine wa_if_ge o_X12_compare_88 (by decide) (fun h12 => ?_) (fun h12 => ?_)
      · refine wa_iconst (v := 1) (by decide) ?_
        refine wa_ireturn rfl rfl ?_
        exact ⟨_, rfl, Fs3, trivial⟩
      · refine wa_iconst (v := (-1)) (by decide) ?_
        refine wa_goto o_X12_compare_89 (by decide) ?_
        refine wa_ireturn rfl rfl ?_
        exact ⟨_, rfl, Fs3, trivial⟩
    · refine wa_iconst (v := 0) (by decide) ?_
      refine wa_goto o_X12_compare_89 (by decide) ?_
      refine wa_ireturn rfl rfl ?_
      exact ⟨_, rfl, Fs3, trivial⟩
  · refine wa_lload rfl ?_
    refine wa_aload_n (i := 0) rfl rfl ?_
    refine wa_getl ck_12 fl_12_1102 ly_84 ?_
    refine wa_lcmp ?_
    refine wa_top (fun v13 hv13 => ?_)
    have tv13 := i_cmpT hv13
    clear hv13
    refine wa_if_ge o_X12_compare_50 (by decide) (fun h14 => ?_) (fun h14 => ?_)
    · refine wa_iconst (v := 1) (by decide) ?_
      refine wa_ireturn rfl rfl ?_
      exact ⟨_, rfl, Fs3, trivial⟩
    · refine wa_iconst (v := (-1)) (by decide) ?_
      refine wa_goto o_X12_compare_51 (by decide) ?_
      refine wa_ireturn rfl rfl ?_
      exact ⟨_, rfl, Fs3, trivial⟩
set_option maxHeartbeats 4000000 in
theorem sp_X12_compareRow (G : kG9) {d : Nat} (hd : 1 ≤ d) (σ : St) (a0 : Int32) (a1 : Bool) (a2 : Int64) (r1 : 0 ≤ (gi σ 84 32).toInt ∧ (gi σ 84 32).toInt ≤ 4) : Ct G M_X12_compareRow d [.ref 84, .int a0, .int (bI a1), .long a2] σ (fun r σ' => ∃ x : Int32, r = some (.int x) ∧ σ = σ' ∧ True) := by
  refine wa_start (by decide) rfl (Nat.le_of_ble_eq_true rfl) (lv := [(0, .ref 84), (1, .int a0), (2, .int (bI a1)), (3, .long a2)]) rfl o_X12_compareRow_0 rfl ?_
  have ua0 := Int32.toInt_lt a0
  have wa0 := Int32.le_toInt a0
  refine wa_lconst (v := 0) (by decide) ?_
  refine wa_lstoreD (lv' := [(5, .long 0), (0, .ref 84), (1, .int a0), (2, .int (bI a1)), (3, .long a2)]) (by decide) rfl ?_
  refine wa_lconst (v := 0) (by decide) ?_
  refine wa_lstoreD (lv' := [(7, .long 0), (5, .long 0), (0, .ref 84), (1, .int a0), (2, .int (bI a1)), (3, .long a2)]) (by decide) rfl ?_
  refine wa_iconst (v := 0) (by decide) ?_
  refine wa_istoreD (lv' := [(9, .int 0), (7, .long 0), (5, .long 0), (0, .ref 84), (1, .int a0), (2, .int (bI a1)), (3, .long a2)]) (by decide) rfl ?_
  refine wa_pick [3, 4, 5, 6, 2, 1, 0] rfl ?_
  have hi2 : ∀ (n9_9 : Nat) (l5 : Int64) (l7 : Int64) (l9 : Int32), ((0 ≤ l9.toInt) ∧ (True)) → (2147483647 - l9.toInt).toNat = n9_9 → WA G M_X12_compareRow (ZM G M_X12_compareRow d (fun r σ' => ∃ x : Int32, r = some (.int x) ∧ σ = σ' ∧ True)) B_X12_compareRow_9 [(0, .ref 84), (1, .int a0), (2, .int (bI a1)), (3, .long a2), (5, .long l5), (7, .long l7), (9, .int l9)] [] σ := by
    intro n9_9
    induction n9_9 using Nat.strongRecOn with
    | _ n9_9 ih1 =>
      intro l5 l7 l9  i9 m9_9
      obtain ⟨jhi2_0, -⟩ := i9
      have ul9 := Int32.toInt_lt l9
      have wl9 := Int32.le_toInt l9
      refine wa_iload rfl ?_
      refine wa_aload_n (i := 0) rfl rfl ?_
      refine wa_geti ck_12 fl_12_815 ly_84 ?_
      refine wa_icmp_ge o_X12_compareRow_84 (by decide) (fun h3 => ?_) (fun h3 => ?_)
      · refine wa_lload rfl ?_
        refine wa_lload_n (i := 3) rfl rfl ?_
        refine wa_aload_n (i := 0) rfl rfl ?_
        refine wa_getl ck_12 fl_12_1097 ly_84 ?_
        refine wa_bipush (v := 32) (by decide) ?_
        refine wa_lshr ?_
        refine wa_topl (fun v4 hv4 => ?_)
        clear hv4
        refine wa_lmul ?_
        refine wa_topl (fun v5 hv5 => ?_)
        have tv5 := m_l_remU hv5
        clear hv5
        refine wa_lsub ?_
        refine wa_topl (fun v6 hv6 => ?_)
        have tv6 := s_l_remU hv6
        clear hv6
        refine wa_lstoreD (lv' := [(5, .long v6), (0, .ref 84), (1, .int a0), (2, .int (bI a1)), (3, .long a2), (7, .long l7), (9, .int l9)]) (by decide) rfl ?_
        refine wa_lload rfl ?_
        refine wa_lload_n (i := 3) rfl rfl ?_
        refine wa_aload_n (i := 0) rfl rfl ?_
        refine wa_getl ck_12 fl_12_1097 ly_84 ?_
        refine wa_ldc2 (v := (4294967295)) (allW_in (kT_15 _ (List.mem_of_getElem? (i := 68) rfl)) rfl) ?_
        refine wa_land ?_
        refine wa_topl (fun v7 hv7 => ?_)
        clear hv7
        refine wa_lmul ?_
        refine wa_topl (fun v8 hv8 => ?_)
        have tv8 := m_l_remU hv8
        clear hv8
        refine wa_lsub ?_
        refine wa_topl (fun v9 hv9 => ?_)
        have tv9 := s_l_remU hv9
        clear hv9
        refine wa_lstoreD (lv' := [(7, .long v9), (5, .long v6), (0, .ref 84), (1, .int a0), (2, .int (bI a1)), (3, .long a2), (9, .int l9)]) (by decide) rfl ?_
        refine wa_lload rfl ?_
        refine wa_lload rfl ?_
        refine wa_bipush (v := 32) (by decide) ?_
        refine wa_lshr ?_
        refine wa_topl (fun v10 hv10 => ?_)
        clear hv10
        refine wa_ladd ?_
        refine wa_topl (fun v11 hv11 => ?_)
        have tv11 := a_l_remU hv11
        clear hv11
        refine wa_lstoreD (lv' := [(5, .long v11), (7, .long v9), (0, .ref 84), (1, .int a0), (2, .int (bI a1)), (3, .long a2), (9, .int l9)]) (by decide) rfl ?_
        refine wa_lload rfl ?_
        refine wa_ldc2 (v := (4294967295)) (allW_in (kT_15 _ (List.mem_of_getElem? (i := 68) rfl)) rfl) ?_
        refine wa_land ?_
        refine wa_topl (fun v12 hv12 => ?_)
        clear hv12
        refine wa_lstoreD (lv' := [(9, .long v12), (5, .long v11), (7, .long v9), (0, .ref 84), (1, .int a0), (2, .int (bI a1)), (3, .long a2)]) (by decide) rfl ?_
        refine wa_lload rfl ?_
        refine wa_lconst (v := 0) (by decide) ?_
        refine wa_lcmp ?_
        refine wa_top (fun v13 hv13 => ?_)
        have tv13 := i_cmpT hv13
        clear hv13
        refine wa_if_ge o_X12_compareRow_142 (by decide) (fun h14 => ?_) (fun h14 => ?_)
        · refine wa_lload rfl ?_
          refine wa_lconst (v := 0) (by decide) ?_
          refine wa_lcmp ?_
          refine wa_top (fun v15 hv15 => ?_)
          have tv15 := i_cmpT hv15
          clear hv15
          refine wa_if_gt o_X12_compareRow_156 (by decide) (fun h16 => ?_) (fun h16 => ?_)
          · refine wa_iconst (v := 1) (by decide) ?_
            refine wa_goto o_X12_compareRow_161 (by decide) ?_
            refine wa_ireturn rfl rfl ?_
            exact ⟨_, rfl, rfl, trivial⟩
          · refine wa_lload rfl ?_
            refine wa_lconst (v := 0) (by decide) ?_
            refine wa_lcmp ?_
            refine wa_top (fun v17 hv17 => ?_)
            have tv17 := i_cmpT hv17
            clear hv17
            refine wa_if_le o_X12_compareRow_160 (by decide) (fun h18 => ?_) (fun h18 => ?_)
            · refine wa_iconst (v := 0) (by decide) ?_
              refine wa_ireturn rfl rfl ?_
              exact ⟨_, rfl, rfl, trivial⟩
            · refine wa_iconst (v := 1) (by decide) ?_
              refine wa_goto o_X12_compareRow_161 (by decide) ?_
              refine wa_ireturn rfl rfl ?_
              exact ⟨_, rfl, rfl, trivial⟩
        · refine wa_iconst (v := (-1)) (by decide) ?_
          refine wa_goto o_X12_compareRow_161 (by decide) ?_
          refine wa_ireturn rfl rfl ?_
          exact ⟨_, rfl, rfl, trivial⟩
      · have mh3 := nle_mx h3
        refine wa_iload_n (i := 2) rfl rfl ?_
        refine wa_if_eq o_X12_compareRow_32 (by decide) (fun h19 => ?_) (fun h19 => ?_)
        · replace h19 := bI_f (b := a1) (rfl) h19
          refine wa_aload_n (i := 0) rfl rfl ?_
          refine wa_getr ck_12 fl_12_406 ly_84 rf_84_165 ?_
          refine wa_iload rfl ?_
          refine wa_lald ly_101 (by ((try simp only [vp_in_iff, Int32.lt_iff_toInt_lt, Int32.le_iff_toInt_le, ← Int32.toInt_inj, Int32.reduceToInt, n_1, n_2, n_8, Int32.toNatClampNeg, Int64.lt_iff_toInt_lt, Int64.le_iff_toInt_le, ← Int64.toInt_inj, Int64.reduceToInt, Int32.toInt_toInt64, lg_cmp_ge, lg_cmp_le, lg_cmp_gt, lg_cmp_lt, lg_cmp_eq, Bool.false_eq_true, Bool.true_eq_false, reduceCtorEq, false_iff, true_iff, iff_true, iff_false, and_true, true_and, and_false, false_and, reduceIte, ite_true, ite_false, eq_self] at *)) <;> omega) ?_
          refine wa_lstoreD (lv' := [(10, .long (gl σ 101 (l9).toNatClampNeg)), (0, .ref 84), (1, .int a0), (2, .int (bI a1)), (3, .long a2), (5, .long l5), (7, .long l7), (9, .int l9)]) (by decide) rfl ?_
          refine wa_lload rfl ?_
          refine wa_aload_n (i := 0) rfl rfl ?_
          refine wa_iload_n (i := 1) rfl rfl ?_
          refine wa_iload rfl ?_
          refine wa_Vl (d9 := d - 1) [.int _, .int _] [.long l5] (sp_X12_factor G (d := d - 1) (by omega) σ _ _) (rfl) rfl rfl (zr (by omega)) mk_X12_factor ly_84 ml_12_1087 (Nat.le_of_ble_eq_true rfl) (fun x21 s20 hs20 => ?_)
          obtain ⟨zs20, -⟩ := pL hs20
          subst zs20
          refine wa_lload rfl ?_
          refine wa_bipush (v := 32) (by decide) ?_
          refine wa_lshr ?_
          refine wa_topl (fun v22 hv22 => ?_)
          clear hv22
          refine wa_lmul ?_
          refine wa_topl (fun v23 hv23 => ?_)
          have tv23 := m_l_remU hv23
          clear hv23
          refine wa_ladd ?_
          refine wa_topl (fun v24 hv24 => ?_)
          have tv24 := a_l_remU hv24
          clear hv24
          refine wa_lstoreD (lv' := [(5, .long v24), (10, .long (gl σ 101 (l9).toNatClampNeg)), (0, .ref 84), (1, .int a0), (2, .int (bI a1)), (3, .long a2), (7, .long l7), (9, .int l9)]) (by decide) rfl ?_
          refine wa_lload rfl ?_
          refine wa_aload_n (i := 0) rfl rfl ?_
          refine wa_iload_n (i := 1) rfl rfl ?_
          refine wa_iload rfl ?_
          refine wa_Vl (d9 := d - 1) [.int _, .int _] [.long l7] (sp_X12_factor G (d := d - 1) (by omega) σ _ _) (rfl) rfl rfl (zr (by omega)) mk_X12_factor ly_84 ml_12_1087 (Nat.le_of_ble_eq_true rfl) (fun x26 s25 hs25 => ?_)
          obtain ⟨zs25, -⟩ := pL hs25
          subst zs25
          refine wa_lload rfl ?_
          refine wa_ldc2 (v := (4294967295)) (allW_in (kT_15 _ (List.mem_of_getElem? (i := 68) rfl)) rfl) ?_
          refine wa_land ?_
          refine wa_topl (fun v27 hv27 => ?_)
          clear hv27
          refine wa_lmul ?_
          refine wa_topl (fun v28 hv28 => ?_)
          have tv28 := m_l_remU hv28
          clear hv28
          refine wa_ladd ?_
          refine wa_topl (fun v29 hv29 => ?_)
          have tv29 := a_l_remU hv29
          clear hv29
          refine wa_lstoreD (lv' := [(7, .long v29), (5, .long v24), (10, .long (gl σ 101 (l9).toNatClampNeg)), (0, .ref 84), (1, .int a0), (2, .int (bI a1)), (3, .long a2), (9, .int l9)]) (by decide) rfl ?_
          refine wa_iinc (v := (1)) (lv' := fun y30 => [(9, .int y30), (7, .long v29), (5, .long v24), (10, .long (gl σ 101 (l9).toNatClampNeg)), (0, .ref 84), (1, .int a0), (2, .int (bI a1)), (3, .long a2)]) (by decide) rfl (by decide) (fun _ => rfl) (fun y30 hy30 => ?_)
          have ty30 := i_addT hy30.symm
          clear hy30
          refine wa_goto o_X12_compareRow_9 (by decide) ?_
          refine wa_pick [4, 5, 6, 7, 2, 1, 0] rfl ?_
          exact ih1 _ (by ((try simp only [vp_in_iff, Int32.lt_iff_toInt_lt, Int32.le_iff_toInt_le, ← Int32.toInt_inj, Int32.reduceToInt, n_1, n_2, n_8, Int32.toNatClampNeg, Int64.lt_iff_toInt_lt, Int64.le_iff_toInt_le, ← Int64.toInt_inj, Int64.reduceToInt, Int32.toInt_toInt64, lg_cmp_ge, lg_cmp_le, lg_cmp_gt, lg_cmp_lt, lg_cmp_eq, Bool.false_eq_true, Bool.true_eq_false, reduceCtorEq, false_iff, true_iff, iff_true, iff_false, and_true, true_and, and_false, false_and, reduceIte, ite_true, ite_false, eq_self] at *)) <;> omega) _ _ _ ⟨(by ((try simp only [vp_in_iff, Int32.lt_iff_toInt_lt, Int32.le_iff_toInt_le, ← Int32.toInt_inj, Int32.reduceToInt, n_1, n_2, n_8, Int32.toNatClampNeg, Int64.lt_iff_toInt_lt, Int64.le_iff_toInt_le, ← Int64.toInt_inj, Int64.reduceToInt, Int32.toInt_toInt64, lg_cmp_ge, lg_cmp_le, lg_cmp_gt, lg_cmp_lt, lg_cmp_eq, Bool.false_eq_true, Bool.true_eq_false, reduceCtorEq, false_iff, true_iff, iff_true, iff_false, and_true, true_and, and_false, false_and, reduceIte, ite_true, ite_false, eq_self] at *)) <;> omega), trivial⟩ rfl
        · replace h19 := bI_t (b := a1) (rfl) h19
          refine wa_aload_n (i := 0) rfl rfl ?_
          refine wa_getr ck_12 fl_12_409 ly_84 rf_84_166 ?_
          refine wa_iload rfl ?_
          refine wa_lald ly_100 (by ((try simp only [vp_in_iff, Int32.lt_iff_toInt_lt, Int32.le_iff_toInt_le, ← Int32.toInt_inj, Int32.reduceToInt, n_1, n_2, n_8, Int32.toNatClampNeg, Int64.lt_iff_toInt_lt, Int64.le_iff_toInt_le, ← Int64.toInt_inj, Int64.reduceToInt, Int32.toInt_toInt64, lg_cmp_ge, lg_cmp_le, lg_cmp_gt, lg_cmp_lt, lg_cmp_eq, Bool.false_eq_true, Bool.true_eq_false, reduceCtorEq, false_iff, true_iff, iff_true, iff_false, and_true, true_and, and_false, false_and, reduceIte, ite_true, ite_false, eq_self] at *)) <;> omega) ?_
          refine wa_goto o_X12_compareRow_39 (by decide) ?_
          refine wa_lstoreD (lv' := [(10, .long (gl σ 100 (l9).toNatClampNeg)), (0, .ref 84), (1, .int a0), (2, .int (bI a1)), (3, .long a2), (5, .long l5), (7, .long l7), (9, .int l9)]) (by decide) rfl ?_
          refine wa_lload rfl ?_
          refine wa_aload_n (i := 0) rfl rfl ?_
          refine wa_iload_n (i := 1) rfl rfl ?_
          refine wa_iload rfl ?_
          refine wa_Vl (d9 := d - 1) [.int _, .int _] [.long l5] (sp_X12_factor G (d := d - 1) (by omega) σ _ _) (rfl) rfl rfl (zr (by omega)) mk_X12_factor ly_84 ml_12_1087 (Nat.le_of_ble_eq_true rfl) (fun x32 s31 hs31 => ?_)
          obtain ⟨zs31, -⟩ := pL hs31
          subst zs31
          refine wa_lload rfl ?_
          refine wa_bipush (v := 32) (by decide) ?_
          refine wa_lshr ?_
          refine wa_topl (fun v33 hv33 => ?_)
          clear hv33
          refine wa_lmul ?_
          refine wa_topl (fun v34 hv34 => ?_)
          have tv34 := m_l_remU hv34
          clear hv34
          refine wa_ladd ?_
          refine wa_topl (fun v35 hv35 => ?_)
          have tv35 := a_l_remU hv35
          clear hv35
          refine wa_lstoreD (lv' := [(5, .long v35), (10, .long (gl σ 100 (l9).toNatClampNeg)), (0, .ref 84), (1, .int a0), (2, .int (bI a1)), (3, .long a2), (7, .long l7), (9, .int l9)]) (by decide) rfl ?_
          refine wa_lload rfl ?_
          refine wa_aload_n (i := 0) rfl rfl ?_
          refine wa_iload_n (i := 1) rfl rfl ?_
          refine wa_iload rfl ?_
          refine wa_Vl (d9 := d - 1) [.int _, .int _] [.long l7] (sp_X12_factor G (d := d - 1) (by omega) σ _ _) (rfl) rfl rfl (zr (by omega)) mk_X12_factor ly_84 ml_12_1087 (Nat.le_of_ble_eq_true rfl) (fun x37 s36 hs36 => ?_)
          obtain ⟨zs36, -⟩ := pL hs36
          subst zs36
          refine wa_lload rfl ?_
          refine wa_ldc2 (v := (4294967295)) (allW_in (kT_15 _ (List.mem_of_getElem? (i := 68) rfl)) rfl) ?_
          refine wa_land ?_
          refine wa_topl (fun v38 hv38 => ?_)
          clear hv38
          refine wa_lmul ?_
          refine wa_topl (fun v39 hv39 => ?_)
          have tv39 := m_l_remU hv39
          clear hv39
          refine wa_ladd ?_
          refine wa_topl (fun v40 hv40 => ?_)
          have tv40 := a_l_remU hv40
          clear hv40
          refine wa_lstoreD (lv' := [(7, .long v40), (5, .long v35), (10, .long (gl σ 100 (l9).toNatClampNeg)), (0, .ref 84), (1, .int a0), (2, .int (bI a1)), (3, .long a2), (9, .int l9)]) (by decide) rfl ?_
          refine wa_iinc (v := (1)) (lv' := fun y41 => [(9, .int y41), (7, .long v40), (5, .long v35), (10, .long (gl σ 100 (l9).toNatClampNeg)), (0, .ref 84), (1, .int a0), (2, .int (bI a1)), (3, .long a2)]) (by decide) rfl (by decide) (fun _ => rfl) (fun y41 hy41 => ?_)
          have ty41 := i_addT hy41.symm
          clear hy41
          refine wa_goto o_X12_compareRow_9 (by decide) ?_
          refine wa_pick [4, 5, 6, 7, 2, 1, 0] rfl ?_
          exact ih1 _ (by ((try simp only [vp_in_iff, Int32.lt_iff_toInt_lt, Int32.le_iff_toInt_le, ← Int32.toInt_inj, Int32.reduceToInt, n_1, n_2, n_8, Int32.toNatClampNeg, Int64.lt_iff_toInt_lt, Int64.le_iff_toInt_le, ← Int64.toInt_inj, Int64.reduceToInt, Int32.toInt_toInt64, lg_cmp_ge, lg_cmp_le, lg_cmp_gt, lg_cmp_lt, lg_cmp_eq, Bool.false_eq_true, Bool.true_eq_false, reduceCtorEq, false_iff, true_iff, iff_true, iff_false, and_true, true_and, and_false, false_and, reduceIte, ite_true, ite_false, eq_self] at *)) <;> omega) _ _ _ ⟨(by ((try simp only [vp_in_iff, Int32.lt_iff_toInt_lt, Int32.le_iff_toInt_le, ← Int32.toInt_inj, Int32.reduceToInt, n_1, n_2, n_8, Int32.toNatClampNeg, Int64.lt_iff_toInt_lt, Int64.le_iff_toInt_le, ← Int64.toInt_inj, Int64.reduceToInt, Int32.toInt_toInt64, lg_cmp_ge, lg_cmp_le, lg_cmp_gt, lg_cmp_lt, lg_cmp_eq, Bool.false_eq_true, Bool.true_eq_false, reduceCtorEq, false_iff, true_iff, iff_true, iff_false, and_true, true_and, and_false, false_and, reduceIte, ite_true, ite_false, eq_self] at *)) <;> omega), trivial⟩ rfl
  exact hi2 _ _ _ _ ⟨(by ((try simp only [vp_in_iff, Int32.lt_iff_toInt_lt, Int32.le_iff_toInt_le, ← Int32.toInt_inj, Int32.reduceToInt, n_1, n_2, n_8, Int32.toNatClampNeg, Int64.lt_iff_toInt_lt, Int64.le_iff_toInt_le, ← Int64.toInt_inj, Int64.reduceToInt, Int32.toInt_toInt64, lg_cmp_ge, lg_cmp_le, lg_cmp_gt, lg_cmp_lt, lg_cmp_eq, Bool.false_eq_true, Bool.true_eq_false, reduceCtorEq, false_iff, true_iff, iff_true, iff_false, and_true, true_and, and_false, false_and, reduceIte, ite_true, ite_false, eq_self] at *)) <;> omega), trivial⟩ rfl
set_option maxHeartbeats 4000000 in
theorem sp_X12_isBeyond (G : kG9) {d : Nat} (hd : 2 ≤ d) (σ : St) (a0 : Int32) (r1 : 0 ≤ (gi σ 84 32).toInt ∧ (gi σ 84 32).toInt ≤ 4) : Ct G M_X12_isBeyond d [.ref 84, .int a0] σ (fun r σ' => ∃ x : Bool, r = some (.int (bI x)) ∧ σ = σ' ∧ True) := by
  refine wa_start (by decide) rfl (Nat.le_of_ble_eq_true rfl) (lv := [(0, .ref 84), (1, .int a0)]) rfl o_X12_isBeyond_0 rfl ?_
  have ua0 := Int32.toInt_lt a0
  have wa0 := Int32.le_toInt a0
  refine wa_aload_n (i := 0) rfl rfl ?_
  refine wa_iload_n (i := 1) rfl rfl ?_
  refine wa_iconst (v := 1) (by decide) ?_
  refine wa_iload_n (i := 1) rfl rfl ?_
  refine wa_aload_n (i := 0) rfl rfl ?_
  refine wa_geti ck_12 fl_12_1067 ly_84 ?_
  refine wa_icmp_ge o_X12_isBeyond_15 (by decide) (fun h1 => ?_) (fun h1 => ?_)
  · refine wa_lconst (v := 1) (by decide) ?_
    refine wa_Vi (d9 := d - 1) [.int _, .int (bI true), .long _] [] (sp_X12_compareRow G (d := d - 1) (by omega) σ _ true _ (by first | assumption | exact Or.inl rfl | exact Or.inr rfl | (((try simp only [vp_in_iff, Int32.lt_iff_toInt_lt, Int32.le_iff_toInt_le, ← Int32.toInt_inj, Int32.reduceToInt, n_1, n_2, n_8, Int32.toNatClampNeg, Int64.lt_iff_toInt_lt, Int64.le_iff_toInt_le, ← Int64.toInt_inj, Int64.reduceToInt, Int32.toInt_toInt64, lg_cmp_ge, lg_cmp_le, lg_cmp_gt, lg_cmp_lt, lg_cmp_eq, Bool.false_eq_true, Bool.true_eq_false, reduceCtorEq, false_iff, true_iff, iff_true, iff_false, and_true, true_and, and_false, false_and, reduceIte, ite_true, ite_false, eq_self] at *)) <;> omega))) (rfl) rfl rfl (zr (by omega)) mk_X12_compareRow ly_84 ml_12_1112 (Nat.le_of_ble_eq_true rfl) (fun x3 s2 hs2 => ?_)
    obtain ⟨zs2, -⟩ := pI hs2
    subst zs2
    refine wa_istore_nD (lv' := [(2, .int x3), (0, .ref 84), (1, .int a0)]) (i := 2) rfl (by decide) rfl ?_
    refine wa_iload_n (i := 2) rfl rfl ?_
    refine wa_if_gt o_X12_isBeyond_55 (by decide) (fun h4 => ?_) (fun h4 => ?_)
    · refine wa_iconst (v := 1) (by decide) ?_
      refine wa_goto o_X12_isBeyond_60 (by decide) ?_
      refine wa_zreturn true (rfl) rfl rfl ?_
      exact ⟨_, rfl, rfl, trivial⟩
    · refine wa_iload_n (i := 2) rfl rfl ?_
      refine wa_if_ne o_X12_isBeyond_59 (by decide) (fun h5 => ?_) (fun h5 => ?_)
      · refine wa_iconst (v := 0) (by decide) ?_
        refine wa_zreturn false (rfl) rfl rfl ?_
        exact ⟨_, rfl, rfl, trivial⟩
      · refine wa_aload_n (i := 0) rfl rfl ?_
        refine wa_iload_n (i := 1) rfl rfl ?_
        refine wa_iconst (v := 0) (by decide) ?_
        refine wa_iload_n (i := 1) rfl rfl ?_
        refine wa_aload_n (i := 0) rfl rfl ?_
        refine wa_geti ck_12 fl_12_1067 ly_84 ?_
        refine wa_icmp_ge o_X12_isBeyond_48 (by decide) (fun h6 => ?_) (fun h6 => ?_)
        · refine wa_lconst (v := 0) (by decide) ?_
          refine wa_Vi (d9 := d - 1) [.int _, .int (bI false), .long _] [] (sp_X12_compareRow G (d := d - 1) (by omega) σ _ false _ (by first | assumption | exact Or.inl rfl | exact Or.inr rfl | (((try simp only [vp_in_iff, Int32.lt_iff_toInt_lt, Int32.le_iff_toInt_le, ← Int32.toInt_inj, Int32.reduceToInt, n_1, n_2, n_8, Int32.toNatClampNeg, Int64.lt_iff_toInt_lt, Int64.le_iff_toInt_le, ← Int64.toInt_inj, Int64.reduceToInt, Int32.toInt_toInt64, lg_cmp_ge, lg_cmp_le, lg_cmp_gt, lg_cmp_lt, lg_cmp_eq, Bool.false_eq_true, Bool.true_eq_false, reduceCtorEq, false_iff, true_iff, iff_true, iff_false, and_true, true_and, and_false, false_and, reduceIte, ite_true, ite_false, eq_self] at *)) <;> omega))) (rfl) rfl rfl (zr (by omega)) mk_X12_compareRow ly_84 ml_12_1112 (Nat.le_of_ble_eq_true rfl) (fun x8 s7 hs7 => ?_)
          obtain ⟨zs7, -⟩ := pI hs7
          subst zs7
          refine wa_if_le o_X12_isBeyond_59 (by decide) (fun h9 => ?_) (fun h9 => ?_)
          · refine wa_iconst (v := 0) (by decide) ?_
            refine wa_zreturn false (rfl) rfl rfl ?_
            exact ⟨_, rfl, rfl, trivial⟩
          · refine wa_iconst (v := 1) (by decide) ?_
            refine wa_goto o_X12_isBeyond_60 (by decide) ?_
            refine wa_zreturn true (rfl) rfl rfl ?_
            exact ⟨_, rfl, rfl, trivial⟩
        · have mh6 := nle_mx h6
          refine wa_aload_n (i := 0) rfl rfl ?_
          refine wa_getr ck_12 fl_12_397 ly_84 rf_84_159 ?_
          refine wa_iload_n (i := 1) rfl rfl ?_
          refine wa_lald ly_104 (by ((try simp only [vp_in_iff, Int32.lt_iff_toInt_lt, Int32.le_iff_toInt_le, ← Int32.toInt_inj, Int32.reduceToInt, n_1, n_2, n_8, Int32.toNatClampNeg, Int64.lt_iff_toInt_lt, Int64.le_iff_toInt_le, ← Int64.toInt_inj, Int64.reduceToInt, Int32.toInt_toInt64, lg_cmp_ge, lg_cmp_le, lg_cmp_gt, lg_cmp_lt, lg_cmp_eq, Bool.false_eq_true, Bool.true_eq_false, reduceCtorEq, false_iff, true_iff, iff_true, iff_false, and_true, true_and, and_false, false_and, reduceIte, ite_true, ite_false, eq_self] at *)) <;> omega) ?_
          refine wa_goto o_X12_isBeyond_49 (by decide) ?_
          refine wa_Vi (d9 := d - 1) [.int _, .int (bI false), .long _] [] (sp_X12_compareRow G (d := d - 1) (by omega) σ _ false _ (by first | assumption | exact Or.inl rfl | exact Or.inr rfl | (((try simp only [vp_in_iff, Int32.lt_iff_toInt_lt, Int32.le_iff_toInt_le, ← Int32.toInt_inj, Int32.reduceToInt, n_1, n_2, n_8, Int32.toNatClampNeg, Int64.lt_iff_toInt_lt, Int64.le_iff_toInt_le, ← Int64.toInt_inj, Int64.reduceToInt, Int32.toInt_toInt64, lg_cmp_ge, lg_cmp_le, lg_cmp_gt, lg_cmp_lt, lg_cmp_eq, Bool.false_eq_true, Bool.true_eq_false, reduceCtorEq, false_iff, true_iff, iff_true, iff_false, and_true, true_and, and_false, false_and, reduceIte, ite_true, ite_false, eq_self] at *)) <;> omega))) (rfl) rfl rfl (zr (by omega)) mk_X12_compareRow ly_84 ml_12_1112 (Nat.le_of_ble_eq_true rfl) (fun x11 s10 hs10 => ?_)
          obtain ⟨zs10, -⟩ := pI hs10
          subst zs10
          refine wa_if_le o_X12_isBeyond_59 (by decide) (fun h12 => ?_) (fun h12 => ?_)
          · refine wa_iconst (v := 0) (by decide) ?_
            refine wa_zreturn false (rfl) rfl rfl ?_
            exact ⟨_, rfl, rfl, trivial⟩
          · refine wa_iconst (v := 1) (by decide) ?_
            refine wa_goto o_X12_isBeyond_60 (by decide) ?_
            refine wa_zreturn true (rfl) rfl rfl ?_
            exact ⟨_, rfl, rfl, trivial⟩
  · have mh1 := nle_mx h1
    refine wa_lconst (v := 0) (by decide) ?_
    refine wa_goto o_X12_isBeyond_16 (by decide) ?_
    refine wa_Vi (d9 := d - 1) [.int _, .int (bI true), .long _] [] (sp_X12_compareRow G (d := d - 1) (by omega) σ _ true _ (by first | assumption | exact Or.inl rfl | exact Or.inr rfl | (((try simp only [vp_in_iff, Int32.lt_iff_toInt_lt, Int32.le_iff_toInt_le, ← Int32.toInt_inj, Int32.reduceToInt, n_1, n_2, n_8, Int32.toNatClampNeg, Int64.lt_iff_toInt_lt, Int64.le_iff_toInt_le, ← Int64.toInt_inj, Int64.reduceToInt, Int32.toInt_toInt64, lg_cmp_ge, lg_cmp_le, lg_cmp_gt, lg_cmp_lt, lg_cmp_eq, Bool.false_eq_true, Bool.true_eq_false, reduceCtorEq, false_iff, true_iff, iff_true, iff_false, and_true, true_and, and_false, false_and, reduceIte, ite_true, ite_false, eq_self] at *)) <;> omega))) (rfl) rfl rfl (zr (by omega)) mk_X12_compareRow ly_84 ml_12_1112 (Nat.le_of_ble_eq_true rfl) (fun x14 s13 hs13 => ?_)
    obtain ⟨zs13, -⟩ := pI hs13
    subst zs13
    refine wa_istore_nD (lv' := [(2, .int x14), (0, .ref 84), (1, .int a0)]) (i := 2) rfl (by decide) rfl ?_
    refine wa_iload_n (i := 2) rfl rfl ?_
    refine wa_if_gt o_X12_isBeyond_55 (by decide) (fun h15 => ?_) (fun h15 => ?_)
    · refine wa_iconst (v := 1) (by decide) ?_
      refine wa_goto o_X12_isBeyond_60 (by decide) ?_
      refine wa_zreturn true (rfl) rfl rfl ?_
      exact ⟨_, rfl, rfl, trivial⟩
    · refine wa_iload_n (i := 2) rfl rfl ?_
      refine wa_if_ne o_X12_isBeyond_59 (by decide) (fun h16 => ?_) (fun h16 => ?_)
      · refine wa_iconst (v := 0) (by decide) ?_
        refine wa_zreturn false (rfl) rfl rfl ?_
        exact ⟨_, rfl, rfl, trivial⟩
      · refine wa_aload_n (i := 0) rfl rfl ?_
        refine wa_iload_n (i := 1) rfl rfl ?_
        refine wa_iconst (v := 0) (by decide) ?_
        refine wa_iload_n (i := 1) rfl rfl ?_
        refine wa_aload_n (i := 0) rfl rfl ?_
        refine wa_geti ck_12 fl_12_1067 ly_84 ?_
        refine wa_icmp_ge o_X12_isBeyond_48 (by decide) (fun h17 => ?_) (fun h17 => ?_)
        · refine wa_lconst (v := 0) (by decide) ?_
          refine wa_Vi (d9 := d - 1) [.int _, .int (bI false), .long _] [] (sp_X12_compareRow G (d := d - 1) (by omega) σ _ false _ (by first | assumption | exact Or.inl rfl | exact Or.inr rfl | (((try simp only [vp_in_iff, Int32.lt_iff_toInt_lt, Int32.le_iff_toInt_le, ← Int32.toInt_inj, Int32.reduceToInt, n_1, n_2, n_8, Int32.toNatClampNeg, Int64.lt_iff_toInt_lt, Int64.le_iff_toInt_le, ← Int64.toInt_inj, Int64.reduceToInt, Int32.toInt_toInt64, lg_cmp_ge, lg_cmp_le, lg_cmp_gt, lg_cmp_lt, lg_cmp_eq, Bool.false_eq_true, Bool.true_eq_false, reduceCtorEq, false_iff, true_iff, iff_true, iff_false, and_true, true_and, and_false, false_and, reduceIte, ite_true, ite_false, eq_self] at *)) <;> omega))) (rfl) rfl rfl (zr (by omega)) mk_X12_compareRow ly_84 ml_12_1112 (Nat.le_of_ble_eq_true rfl) (fun x19 s18 hs18 => ?_)
          obtain ⟨zs18, -⟩ := pI hs18
          subst zs18
          refine wa_if_le o_X12_isBeyond_59 (by decide) (fun h20 => ?_) (fun h20 => ?_)
          · refine wa_iconst (v := 0) (by decide) ?_
            refine wa_zreturn false (rfl) rfl rfl ?_
            exact ⟨_, rfl, rfl, trivial⟩
          · refine wa_iconst (v := 1) (by decide) ?_
            refine wa_goto o_X12_isBeyond_60 (by decide) ?_
            refine wa_zreturn true (rfl) rfl rfl ?_
            exact ⟨_, rfl, rfl, trivial⟩
        · have mh17 := nle_mx h17
          refine wa_aload_n (i := 0) rfl rfl ?_
          refine wa_getr ck_12 fl_12_397 ly_84 rf_84_159 ?_
          refine wa_iload_n (i := 1) rfl rfl ?_
          refine wa_lald ly_104 (by ((try simp only [vp_in_iff, Int32.lt_iff_toInt_lt, Int32.le_iff_toInt_le, ← Int32.toInt_inj, Int32.reduceToInt, n_1, n_2, n_8, Int32.toNatClampNeg, Int64.lt_iff_toInt_lt, Int64.le_iff_toInt_le, ← Int64.toInt_inj, Int64.reduceToInt, Int32.toInt_toInt64, lg_cmp_ge, lg_cmp_le, lg_cmp_gt, lg_cmp_lt, lg_cmp_eq, Bool.false_eq_true, Bool.true_eq_false, reduceCtorEq, false_iff, true_iff, iff_true, iff_false, and_true, true_and, and_false, false_and, reduceIte, ite_true, ite_false, eq_self] at *)) <;> omega) ?_
          refine wa_goto o_X12_isBeyond_49 (by decide) ?_
          refine wa_Vi (d9 := d - 1) [.int _, .int (bI false), .long _] [] (sp_X12_compareRow G (d := d - 1) (by omega) σ _ false _ (by first | assumption | exact Or.inl rfl | exact Or.inr rfl | (((try simp only [vp_in_iff, Int32.lt_iff_toInt_lt, Int32.le_iff_toInt_le, ← Int32.toInt_inj, Int32.reduceToInt, n_1, n_2, n_8, Int32.toNatClampNeg, Int64.lt_iff_toInt_lt, Int64.le_iff_toInt_le, ← Int64.toInt_inj, Int64.reduceToInt, Int32.toInt_toInt64, lg_cmp_ge, lg_cmp_le, lg_cmp_gt, lg_cmp_lt, lg_cmp_eq, Bool.false_eq_true, Bool.true_eq_false, reduceCtorEq, false_iff, true_iff, iff_true, iff_false, and_true, true_and, and_false, false_and, reduceIte, ite_true, ite_false, eq_self] at *)) <;> omega))) (rfl) rfl rfl (zr (by omega)) mk_X12_compareRow ly_84 ml_12_1112 (Nat.le_of_ble_eq_true rfl) (fun x22 s21 hs21 => ?_)
          obtain ⟨zs21, -⟩ := pI hs21
          subst zs21
          refine wa_if_le o_X12_isBeyond_59 (by decide) (fun h23 => ?_) (fun h23 => ?_)
          · refine wa_iconst (v := 0) (by decide) ?_
            refine wa_zreturn false (rfl) rfl rfl ?_
            exact ⟨_, rfl, rfl, trivial⟩
          · refine wa_iconst (v := 1) (by decide) ?_
            refine wa_goto o_X12_isBeyond_60 (by decide) ?_
            refine wa_zreturn true (rfl) rfl rfl ?_
            exact ⟨_, rfl, rfl, trivial⟩
set_option maxHeartbeats 4000000 in
theorem sp_X12_goesRather (G : kG9) {d : Nat} (hd : 4 ≤ d) (σ : St) (a0 : Int32) (a1 : Int64) (a2 : Int32) (a3 : Int64) (r1 : 0 ≤ (gi σ 84 32).toInt ∧ (gi σ 84 32).toInt ≤ 4) : Ct G M_X12_goesRather d [.ref 84, .int a0, .long a1, .int a2, .long a3] σ (fun r σ' => ∃ x : Bool, r = some (.int (bI x)) ∧ Fm [102] [167, 168] σ σ' ∧ True) := by
  refine wa_start (by decide) rfl (Nat.le_of_ble_eq_true rfl) (lv := [(0, .ref 84), (1, .int a0), (2, .long a1), (4, .int a2), (5, .long a3)]) rfl o_X12_goesRather_0 rfl ?_
  have ua0 := Int32.toInt_lt a0
  have wa0 := Int32.le_toInt a0
  have ua2 := Int32.toInt_lt a2
  have wa2 := Int32.le_toInt a2
  refine wa_iconst (v := 0) (by decide) ?_
  refine wa_istoreD (lv' := [(7, .int 0), (0, .ref 84), (1, .int a0), (2, .long a1), (4, .int a2), (5, .long a3)]) (by decide) rfl ?_
  refine wa_pick [1, 2, 3, 4, 5, 0] rfl ?_
  have hi3 : ∀ (n9_3 : Nat) (l7 : Int32) (s1 : St), ((Fm [102] [167, 168] σ s1) ∧ (gi s1 84 32 = gi σ 84 32) ∧ (gi s1 84 169 = gi σ 84 169) ∧ (0 ≤ l7.toInt) ∧ (True)) → (2147483647 - l7.toInt).toNat = n9_3 → WA G M_X12_goesRather (ZM G M_X12_goesRather d (fun r σ' => ∃ x : Bool, r = some (.int (bI x)) ∧ Fm [102] [167, 168] σ σ' ∧ True)) B_X12_goesRather_3 [(0, .ref 84), (1, .int a0), (2, .long a1), (4, .int a2), (5, .long a3), (7, .int l7)] [] s1 := by
    intro n9_3
    induction n9_3 using Nat.strongRecOn with
    | _ n9_3 ih2 =>
      intro l7 s1 i9 m9_3
      obtain ⟨Fs1, khi3_0, khi3_1, jhi3_0, -⟩ := i9
      have ul7 := Int32.toInt_lt l7
      have wl7 := Int32.le_toInt l7
      refine wa_iload rfl ?_
      refine wa_aload_n (i := 0) rfl rfl ?_
      refine wa_geti ck_12 fl_12_815 ly_84 ?_
      refine wa_rw (khi3_0) ?_
      refine wa_icmp_gt o_X12_goesRather_76 (by decide) (fun h4 => ?_) (fun h4 => ?_)
      · refine wa_iconst (v := 0) (by decide) ?_
        refine wa_zreturn false (rfl) rfl rfl ?_
        exact ⟨_, rfl, Fs1, trivial⟩
      · refine wa_aload_n (i := 0) rfl rfl ?_
        refine wa_aload_n (i := 0) rfl rfl ?_
        refine wa_iload_n (i := 1) rfl rfl ?_
        refine wa_iload rfl ?_
        refine wa_Vl (d9 := d - 1) [.int _, .int _] [.ref 84] (sp_X12_shareOf G (d := d - 1) (by omega) s1 _ _ (by rw [khi3_0]; first | assumption | exact Or.inl rfl | exact Or.inr rfl | (((try simp only [vp_in_iff, Int32.lt_iff_toInt_lt, Int32.le_iff_toInt_le, ← Int32.toInt_inj, Int32.reduceToInt, n_1, n_2, n_8, Int32.toNatClampNeg, Int64.lt_iff_toInt_lt, Int64.le_iff_toInt_le, ← Int64.toInt_inj, Int64.reduceToInt, Int32.toInt_toInt64, lg_cmp_ge, lg_cmp_le, lg_cmp_gt, lg_cmp_lt, lg_cmp_eq, Bool.false_eq_true, Bool.true_eq_false, reduceCtorEq, false_iff, true_iff, iff_true, iff_false, and_true, true_and, and_false, false_and, reduceIte, ite_true, ite_false, eq_self] at *)) <;> omega))) (rfl) rfl rfl (zr (by omega)) mk_X12_shareOf ly_84 ml_12_1116 (Nat.le_of_ble_eq_true rfl) (fun x6 s5 hs5 => ?_)
        obtain ⟨fs5, -⟩ := pL hs5
        have Fs5 : Fm [102] [167, 168] σ s5 := Fm.tr Fs1 (Fm.wd fs5 rfl rfl)
        refine wa_lload rfl ?_
        refine wa_aload_n (i := 0) rfl rfl ?_
        refine wa_iload rfl ?_
        refine wa_iload rfl ?_
        refine wa_Vl (d9 := d - 1) [.int _, .int _] [.long a3, .long x6, .ref 84] (sp_X12_shareOf G (d := d - 1) (by omega) s5 _ _ (by rw [(Fm.gi fs5 (q := 84) (k := 32) rfl rfl).trans (khi3_0)]; first | assumption | exact Or.inl rfl | exact Or.inr rfl | (((try simp only [vp_in_iff, Int32.lt_iff_toInt_lt, Int32.le_iff_toInt_le, ← Int32.toInt_inj, Int32.reduceToInt, n_1, n_2, n_8, Int32.toNatClampNeg, Int64.lt_iff_toInt_lt, Int64.le_iff_toInt_le, ← Int64.toInt_inj, Int64.reduceToInt, Int32.toInt_toInt64, lg_cmp_ge, lg_cmp_le, lg_cmp_gt, lg_cmp_lt, lg_cmp_eq, Bool.false_eq_true, Bool.true_eq_false, reduceCtorEq, false_iff, true_iff, iff_true, iff_false, and_true, true_and, and_false, false_and, reduceIte, ite_true, ite_false, eq_self] at *)) <;> omega))) (rfl) rfl rfl (zr (by omega)) mk_X12_shareOf ly_84 ml_12_1116 (Nat.le_of_ble_eq_true rfl) (fun x8 s7 hs7 => ?_)
        obtain ⟨fs7, -⟩ := pL hs7
        have Fs7 : Fm [102] [167, 168] σ s7 := Fm.tr Fs5 (Fm.wd fs7 rfl rfl)
        refine wa_lload_n (i := 2) rfl rfl ?_
        refine wa_Vi (d9 := d - 1) [.long _, .long _, .long _, .long _] [] (sp_X12_compare G (d := d - 1) (by omega) s7 _ _ _ _) (rfl) rfl rfl (zr (by omega)) mk_X12_compare ly_84 ml_12_1119 (Nat.le_of_ble_eq_true rfl) (fun x10 s9 hs9 => ?_)
        obtain ⟨fs9, -⟩ := pI hs9
        have Fs9 : Fm [102] [167, 168] σ s9 := Fm.tr Fs7 (Fm.wd fs9 rfl rfl)
        refine wa_istoreD (lv' := [(8, .int x10), (0, .ref 84), (1, .int a0), (2, .long a1), (4, .int a2), (5, .long a3), (7, .int l7)]) (by decide) rfl ?_
        refine wa_aload_n (i := 0) rfl rfl ?_
        refine wa_geti ck_12 fl_12_1123 ly_84 ?_
        refine wa_rw ((Fm.gi fs9 (q := 84) (k := 169) rfl rfl).trans ((Fm.gi fs7 (q := 84) (k := 169) rfl rfl).trans ((Fm.gi fs5 (q := 84) (k := 169) rfl rfl).trans (khi3_1)))) ?_
        refine wa_if_ge o_X12_goesRather_50 (by decide) (fun h11 => ?_) (fun h11 => ?_)
        · refine wa_iload rfl ?_
          refine wa_istoreD (lv' := [(8, .int x10), (0, .ref 84), (1, .int a0), (2, .long a1), (4, .int a2), (5, .long a3), (7, .int l7)]) (by decide) rfl ?_
          refine wa_iload rfl ?_
          refine wa_if_eq o_X12_goesRather_70 (by decide) (fun h12 => ?_) (fun h12 => ?_)
          · refine wa_iinc (v := (1)) (lv' := fun y13 => [(7, .int y13), (8, .int x10), (0, .ref 84), (1, .int a0), (2, .long a1), (4, .int a2), (5, .long a3)]) (by decide) rfl (by decide) (fun _ => rfl) (fun y13 hy13 => ?_)
            have ty13 := i_addT hy13.symm
            clear hy13
            refine wa_goto o_X12_goesRather_3 (by decide) ?_
            refine wa_pick [2, 3, 4, 5, 6, 0] rfl ?_
            exact ih2 _ (by ((try simp only [vp_in_iff, Int32.lt_iff_toInt_lt, Int32.le_iff_toInt_le, ← Int32.toInt_inj, Int32.reduceToInt, n_1, n_2, n_8, Int32.toNatClampNeg, Int64.lt_iff_toInt_lt, Int64.le_iff_toInt_le, ← Int64.toInt_inj, Int64.reduceToInt, Int32.toInt_toInt64, lg_cmp_ge, lg_cmp_le, lg_cmp_gt, lg_cmp_lt, lg_cmp_eq, Bool.false_eq_true, Bool.true_eq_false, reduceCtorEq, false_iff, true_iff, iff_true, iff_false, and_true, true_and, and_false, false_and, reduceIte, ite_true, ite_false, eq_self] at *)) <;> omega) _ _ ⟨Fs9, ((Fm.gi fs9 (q := 84) (k := 32) rfl rfl).trans ((Fm.gi fs7 (q := 84) (k := 32) rfl rfl).trans ((Fm.gi fs5 (q := 84) (k := 32) rfl rfl).trans (khi3_0)))), ((Fm.gi fs9 (q := 84) (k := 169) rfl rfl).trans ((Fm.gi fs7 (q := 84) (k := 169) rfl rfl).trans ((Fm.gi fs5 (q := 84) (k := 169) rfl rfl).trans (khi3_1)))), (by ((try simp only [vp_in_iff, Int32.lt_iff_toInt_lt, Int32.le_iff_toInt_le, ← Int32.toInt_inj, Int32.reduceToInt, n_1, n_2, n_8, Int32.toNatClampNeg, Int64.lt_iff_toInt_lt, Int64.le_iff_toInt_le, ← Int64.toInt_inj, Int64.reduceToInt, Int32.toInt_toInt64, lg_cmp_ge, lg_cmp_le, lg_cmp_gt, lg_cmp_lt, lg_cmp_eq, Bool.false_eq_true, Bool.true_eq_false, reduceCtorEq, false_iff, true_iff, iff_true, iff_false, and_true, true_and, and_false, false_and, reduceIte, ite_true, ite_false, eq_self] at *)) <;> omega), trivial⟩ rfl
          · refine wa_iload rfl ?_
            refine wa_if_ge o_X12_goesRather_68 (by decide) (fun h14 => ?_) (fun h14 => ?_)
            · refine wa_iconst (v := 0) (by decide) ?_
              refine wa_zreturn false (rfl) rfl rfl ?_
              exact ⟨_, rfl, Fs9, trivial⟩
            · refine wa_iconst (v := 1) (by decide) ?_
              refine wa_goto o_X12_goesRather_69 (by decide) ?_
              refine wa_zreturn true (rfl) rfl rfl ?_
              exact ⟨_, rfl, Fs9, trivial⟩
        · refine wa_iconst (v := 0) (by decide) ?_
          refine wa_iload rfl ?_
          refine wa_isub ?_
          refine wa_top (fun v15 hv15 => ?_)
          have tv15 := i_subT hv15
          clear hv15
          refine wa_goto o_X12_goesRather_52 (by decide) ?_
          refine wa_istoreD (lv' := [(8, .int v15), (0, .ref 84), (1, .int a0), (2, .long a1), (4, .int a2), (5, .long a3), (7, .int l7)]) (by decide) rfl ?_
          refine wa_iload rfl ?_
          refine wa_if_eq o_X12_goesRather_70 (by decide) (fun h16 => ?_) (fun h16 => ?_)
          · refine wa_iinc (v := (1)) (lv' := fun y17 => [(7, .int y17), (8, .int v15), (0, .ref 84), (1, .int a0), (2, .long a1), (4, .int a2), (5, .long a3)]) (by decide) rfl (by decide) (fun _ => rfl) (fun y17 hy17 => ?_)
            have ty17 := i_addT hy17.symm
            clear hy17
            refine wa_goto o_X12_goesRather_3 (by decide) ?_
            refine wa_pick [2, 3, 4, 5, 6, 0] rfl ?_
            exact ih2 _ (by ((try simp only [vp_in_iff, Int32.lt_iff_toInt_lt, Int32.le_iff_toInt_le, ← Int32.toInt_inj, Int32.reduceToInt, n_1, n_2, n_8, Int32.toNatClampNeg, Int64.lt_iff_toInt_lt, Int64.le_iff_toInt_le, ← Int64.toInt_inj, Int64.reduceToInt, Int32.toInt_toInt64, lg_cmp_ge, lg_cmp_le, lg_cmp_gt, lg_cmp_lt, lg_cmp_eq, Bool.false_eq_true, Bool.true_eq_false, reduceCtorEq, false_iff, true_iff, iff_true, iff_false, and_true, true_and, and_false, false_and, reduceIte, ite_true, ite_false, eq_self] at *)) <;> omega) _ _ ⟨Fs9, ((Fm.gi fs9 (q := 84) (k := 32) rfl rfl).trans ((Fm.gi fs7 (q := 84) (k := 32) rfl rfl).trans ((Fm.gi fs5 (q := 84) (k := 32) rfl rfl).trans (khi3_0)))), ((Fm.gi fs9 (q := 84) (k := 169) rfl rfl).trans ((Fm.gi fs7 (q := 84) (k := 169) rfl rfl).trans ((Fm.gi fs5 (q := 84) (k := 169) rfl rfl).trans (khi3_1)))), (by ((try simp only [vp_in_iff, Int32.lt_iff_toInt_lt, Int32.le_iff_toInt_le, ← Int32.toInt_inj, Int32.reduceToInt, n_1, n_2, n_8, Int32.toNatClampNeg, Int64.lt_iff_toInt_lt, Int64.le_iff_toInt_le, ← Int64.toInt_inj, Int64.reduceToInt, Int32.toInt_toInt64, lg_cmp_ge, lg_cmp_le, lg_cmp_gt, lg_cmp_lt, lg_cmp_eq, Bool.false_eq_true, Bool.true_eq_false, reduceCtorEq, false_iff, true_iff, iff_true, iff_false, and_true, true_and, and_false, false_and, reduceIte, ite_true, ite_false, eq_self] at *)) <;> omega), trivial⟩ rfl
          · refine wa_iload rfl ?_
            refine wa_if_ge o_X12_goesRather_68 (by decide) (fun h18 => ?_) (fun h18 => ?_)
            · refine wa_iconst (v := 0) (by decide) ?_
              refine wa_zreturn false (rfl) rfl rfl ?_
              exact ⟨_, rfl, Fs9, trivial⟩
            · refine wa_iconst (v := 1) (by decide) ?_
              refine wa_goto o_X12_goesRather_69 (by decide) ?_
              refine wa_zreturn true (rfl) rfl rfl ?_
              exact ⟨_, rfl, Fs9, trivial⟩
  exact hi3 _ _ _ ⟨(Fm.rf [102] [167, 168] σ), (rfl), (rfl), (by ((try simp only [vp_in_iff, Int32.lt_iff_toInt_lt, Int32.le_iff_toInt_le, ← Int32.toInt_inj, Int32.reduceToInt, n_1, n_2, n_8, Int32.toNatClampNeg, Int64.lt_iff_toInt_lt, Int64.le_iff_toInt_le, ← Int64.toInt_inj, Int64.reduceToInt, Int32.toInt_toInt64, lg_cmp_ge, lg_cmp_le, lg_cmp_gt, lg_cmp_lt, lg_cmp_eq, Bool.false_eq_true, Bool.true_eq_false, reduceCtorEq, false_iff, true_iff, iff_true, iff_false, and_true, true_and, and_false, false_and, reduceIte, ite_true, ite_false, eq_self] at *)) <;> omega), trivial⟩ rfl
set_option maxHeartbeats 4000000 in
theorem sp_X12_valueOf (G : kG9) {d : Nat} (hd : 0 ≤ d) (σ : St) (a0 : Bool) (r1 : 0 ≤ (gi σ 84 32).toInt ∧ (gi σ 84 32).toInt ≤ 4) : Ct G M_X12_valueOf d [.ref 84, .int (bI a0)] σ (fun r σ' => ∃ x : Int64, r = some (.long x) ∧ σ = σ' ∧ True) := by
  refine wa_start (by decide) rfl (Nat.le_of_ble_eq_true rfl) (lv := [(0, .ref 84), (1, .int (bI a0))]) rfl o_X12_valueOf_0 rfl ?_
  refine wa_lconst (v := 0) (by decide) ?_
  refine wa_lstore_nD (lv' := [(2, .long 0), (0, .ref 84), (1, .int (bI a0))]) (i := 2) rfl (by decide) rfl ?_
  refine wa_iconst (v := 0) (by decide) ?_
  refine wa_istoreD (lv' := [(4, .int 0), (2, .long 0), (0, .ref 84), (1, .int (bI a0))]) (by decide) rfl ?_
  refine wa_pick [2, 3, 1, 0] rfl ?_
  have hi2 : ∀ (n9_5 : Nat) (l2 : Int64) (l4 : Int32), ((0 ≤ l4.toInt) ∧ (True)) → (2147483647 - l4.toInt).toNat = n9_5 → WA G M_X12_valueOf (ZM G M_X12_valueOf d (fun r σ' => ∃ x : Int64, r = some (.long x) ∧ σ = σ' ∧ True)) B_X12_valueOf_5 [(0, .ref 84), (1, .int (bI a0)), (2, .long l2), (4, .int l4)] [] σ := by
    intro n9_5
    induction n9_5 using Nat.strongRecOn with
    | _ n9_5 ih1 =>
      intro l2 l4  i9 m9_5
      obtain ⟨jhi2_0, -⟩ := i9
      have ul4 := Int32.toInt_lt l4
      have wl4 := Int32.le_toInt l4
      refine wa_iload rfl ?_
      refine wa_aload_n (i := 0) rfl rfl ?_
      refine wa_geti ck_12 fl_12_815 ly_84 ?_
      refine wa_icmp_ge o_X12_valueOf_52 (by decide) (fun h3 => ?_) (fun h3 => ?_)
      · refine wa_iload_n (i := 1) rfl rfl ?_
        refine wa_if_eq o_X12_valueOf_60 (by decide) (fun h4 => ?_) (fun h4 => ?_)
        · replace h4 := bI_f (b := a0) (rfl) h4
          refine wa_lload_n (i := 2) rfl rfl ?_
          refine wa_aload_n (i := 0) rfl rfl ?_
          refine wa_getl ck_12 fl_12_1000 ly_84 ?_
          refine wa_aload_n (i := 0) rfl rfl ?_
          refine wa_getl ck_12 fl_12_1097 ly_84 ?_
          refine wa_lmul ?_
          refine wa_topl (fun v5 hv5 => ?_)
          have tv5 := m_l_remU hv5
          clear hv5
          refine wa_ladd ?_
          refine wa_topl (fun v6 hv6 => ?_)
          have tv6 := a_l_remU hv6
          clear hv6
          refine wa_lreturn rfl rfl ?_
          exact ⟨_, rfl, rfl, trivial⟩
        · replace h4 := bI_t (b := a0) (rfl) h4
          refine wa_lload_n (i := 2) rfl rfl ?_
          refine wa_goto o_X12_valueOf_71 (by decide) ?_
          refine wa_lreturn rfl rfl ?_
          exact ⟨_, rfl, rfl, trivial⟩
      · have mh3 := nle_mx h3
        refine wa_lload_n (i := 2) rfl rfl ?_
        refine wa_aload_n (i := 0) rfl rfl ?_
        refine wa_getr ck_12 fl_12_358 ly_84 rf_84_141 ?_
        refine wa_iload rfl ?_
        refine wa_lald ly_117 (by ((try simp only [vp_in_iff, Int32.lt_iff_toInt_lt, Int32.le_iff_toInt_le, ← Int32.toInt_inj, Int32.reduceToInt, n_1, n_2, n_8, Int32.toNatClampNeg, Int64.lt_iff_toInt_lt, Int64.le_iff_toInt_le, ← Int64.toInt_inj, Int64.reduceToInt, Int32.toInt_toInt64, lg_cmp_ge, lg_cmp_le, lg_cmp_gt, lg_cmp_lt, lg_cmp_eq, Bool.false_eq_true, Bool.true_eq_false, reduceCtorEq, false_iff, true_iff, iff_true, iff_false, and_true, true_and, and_false, false_and, reduceIte, ite_true, ite_false, eq_self] at *)) <;> omega) ?_
        refine wa_iload_n (i := 1) rfl rfl ?_
        refine wa_if_eq o_X12_valueOf_36 (by decide) (fun h7 => ?_) (fun h7 => ?_)
        · replace h7 := bI_f (b := a0) (rfl) h7
          refine wa_aload_n (i := 0) rfl rfl ?_
          refine wa_getr ck_12 fl_12_406 ly_84 rf_84_165 ?_
          refine wa_iload rfl ?_
          refine wa_lald ly_101 (by ((try simp only [vp_in_iff, Int32.lt_iff_toInt_lt, Int32.le_iff_toInt_le, ← Int32.toInt_inj, Int32.reduceToInt, n_1, n_2, n_8, Int32.toNatClampNeg, Int64.lt_iff_toInt_lt, Int64.le_iff_toInt_le, ← Int64.toInt_inj, Int64.reduceToInt, Int32.toInt_toInt64, lg_cmp_ge, lg_cmp_le, lg_cmp_gt, lg_cmp_lt, lg_cmp_eq, Bool.false_eq_true, Bool.true_eq_false, reduceCtorEq, false_iff, true_iff, iff_true, iff_false, and_true, true_and, and_false, false_and, reduceIte, ite_true, ite_false, eq_self] at *)) <;> omega) ?_
          refine wa_lmul ?_
          refine wa_topl (fun v8 hv8 => ?_)
          have tv8 := m_l_remU hv8
          clear hv8
          refine wa_ladd ?_
          refine wa_topl (fun v9 hv9 => ?_)
          have tv9 := a_l_remU hv9
          clear hv9
          refine wa_lstore_nD (lv' := [(2, .long v9), (0, .ref 84), (1, .int (bI a0)), (4, .int l4)]) (i := 2) rfl (by decide) rfl ?_
          refine wa_iinc (v := (1)) (lv' := fun y10 => [(4, .int y10), (2, .long v9), (0, .ref 84), (1, .int (bI a0))]) (by decide) rfl (by decide) (fun _ => rfl) (fun y10 hy10 => ?_)
          have ty10 := i_addT hy10.symm
          clear hy10
          refine wa_goto o_X12_valueOf_5 (by decide) ?_
          refine wa_pick [2, 3, 1, 0] rfl ?_
          exact ih1 _ (by ((try simp only [vp_in_iff, Int32.lt_iff_toInt_lt, Int32.le_iff_toInt_le, ← Int32.toInt_inj, Int32.reduceToInt, n_1, n_2, n_8, Int32.toNatClampNeg, Int64.lt_iff_toInt_lt, Int64.le_iff_toInt_le, ← Int64.toInt_inj, Int64.reduceToInt, Int32.toInt_toInt64, lg_cmp_ge, lg_cmp_le, lg_cmp_gt, lg_cmp_lt, lg_cmp_eq, Bool.false_eq_true, Bool.true_eq_false, reduceCtorEq, false_iff, true_iff, iff_true, iff_false, and_true, true_and, and_false, false_and, reduceIte, ite_true, ite_false, eq_self] at *)) <;> omega) _ _ ⟨(by ((try simp only [vp_in_iff, Int32.lt_iff_toInt_lt, Int32.le_iff_toInt_le, ← Int32.toInt_inj, Int32.reduceToInt, n_1, n_2, n_8, Int32.toNatClampNeg, Int64.lt_iff_toInt_lt, Int64.le_iff_toInt_le, ← Int64.toInt_inj, Int64.reduceToInt, Int32.toInt_toInt64, lg_cmp_ge, lg_cmp_le, lg_cmp_gt, lg_cmp_lt, lg_cmp_eq, Bool.false_eq_true, Bool.true_eq_false, reduceCtorEq, false_iff, true_iff, iff_true, iff_false, and_true, true_and, and_false, false_and, reduceIte, ite_true, ite_false, eq_self] at *)) <;> omega), trivial⟩ rfl
        · replace h7 := bI_t (b := a0) (rfl) h7
          refine wa_aload_n (i := 0) rfl rfl ?_
          refine wa_getr ck_12 fl_12_409 ly_84 rf_84_166 ?_
          refine wa_iload rfl ?_
          refine wa_lald ly_100 (by ((try simp only [vp_in_iff, Int32.lt_iff_toInt_lt, Int32.le_iff_toInt_le, ← Int32.toInt_inj, Int32.reduceToInt, n_1, n_2, n_8, Int32.toNatClampNeg, Int64.lt_iff_toInt_lt, Int64.le_iff_toInt_le, ← Int64.toInt_inj, Int64.reduceToInt, Int32.toInt_toInt64, lg_cmp_ge, lg_cmp_le, lg_cmp_gt, lg_cmp_lt, lg_cmp_eq, Bool.false_eq_true, Bool.true_eq_false, reduceCtorEq, false_iff, true_iff, iff_true, iff_false, and_true, true_and, and_false, false_and, reduceIte, ite_true, ite_false, eq_self] at *)) <;> omega) ?_
          refine wa_goto o_X12_valueOf_43 (by decide) ?_
          refine wa_lmul ?_
          refine wa_topl (fun v11 hv11 => ?_)
          have tv11 := m_l_remU hv11
          clear hv11
          refine wa_ladd ?_
          refine wa_topl (fun v12 hv12 => ?_)
          have tv12 := a_l_remU hv12
          clear hv12
          refine wa_lstore_nD (lv' := [(2, .long v12), (0, .ref 84), (1, .int (bI a0)), (4, .int l4)]) (i := 2) rfl (by decide) rfl ?_
          refine wa_iinc (v := (1)) (lv' := fun y13 => [(4, .int y13), (2, .long v12), (0, .ref 84), (1, .int (bI a0))]) (by decide) rfl (by decide) (fun _ => rfl) (fun y13 hy13 => ?_)
          have ty13 := i_addT hy13.symm
          clear hy13
          refine wa_goto o_X12_valueOf_5 (by decide) ?_
          refine wa_pick [2, 3, 1, 0] rfl ?_
          exact ih1 _ (by ((try simp only [vp_in_iff, Int32.lt_iff_toInt_lt, Int32.le_iff_toInt_le, ← Int32.toInt_inj, Int32.reduceToInt, n_1, n_2, n_8, Int32.toNatClampNeg, Int64.lt_iff_toInt_lt, Int64.le_iff_toInt_le, ← Int64.toInt_inj, Int64.reduceToInt, Int32.toInt_toInt64, lg_cmp_ge, lg_cmp_le, lg_cmp_gt, lg_cmp_lt, lg_cmp_eq, Bool.false_eq_true, Bool.true_eq_false, reduceCtorEq, false_iff, true_iff, iff_true, iff_false, and_true, true_and, and_false, false_and, reduceIte, ite_true, ite_false, eq_self] at *)) <;> omega) _ _ ⟨(by ((try simp only [vp_in_iff, Int32.lt_iff_toInt_lt, Int32.le_iff_toInt_le, ← Int32.toInt_inj, Int32.reduceToInt, n_1, n_2, n_8, Int32.toNatClampNeg, Int64.lt_iff_toInt_lt, Int64.le_iff_toInt_le, ← Int64.toInt_inj, Int64.reduceToInt, Int32.toInt_toInt64, lg_cmp_ge, lg_cmp_le, lg_cmp_gt, lg_cmp_lt, lg_cmp_eq, Bool.false_eq_true, Bool.true_eq_false, reduceCtorEq, false_iff, true_iff, iff_true, iff_false, and_true, true_and, and_false, false_and, reduceIte, ite_true, ite_false, eq_self] at *)) <;> omega), trivial⟩ rfl
  exact hi2 _ _ _ ⟨(by ((try simp only [vp_in_iff, Int32.lt_iff_toInt_lt, Int32.le_iff_toInt_le, ← Int32.toInt_inj, Int32.reduceToInt, n_1, n_2, n_8, Int32.toNatClampNeg, Int64.lt_iff_toInt_lt, Int64.le_iff_toInt_le, ← Int64.toInt_inj, Int64.reduceToInt, Int32.toInt_toInt64, lg_cmp_ge, lg_cmp_le, lg_cmp_gt, lg_cmp_lt, lg_cmp_eq, Bool.false_eq_true, Bool.true_eq_false, reduceCtorEq, false_iff, true_iff, iff_true, iff_false, and_true, true_and, and_false, false_and, reduceIte, ite_true, ite_false, eq_self] at *)) <;> omega), trivial⟩ rfl
set_option maxHeartbeats 4000000 in
theorem sp_X12_isWild (G : kG9) {d : Nat} (hd : 0 ≤ d) (σ : St) (r1 : 0 ≤ (gi σ 84 32).toInt ∧ (gi σ 84 32).toInt ≤ 4) : Ct G M_X12_isWild d [.ref 84] σ (fun r σ' => ∃ x : Bool, r = some (.int (bI x)) ∧ σ = σ' ∧ True) := by
  refine wa_start (by decide) rfl (Nat.le_of_ble_eq_true rfl) (lv := [(0, .ref 84)]) rfl o_X12_isWild_0 rfl ?_
  refine wa_iconst (v := 0) (by decide) ?_
  refine wa_istore_nD (lv' := [(1, .int (bI false)), (0, .ref 84)]) (i := 1) rfl (by decide) rfl ?_
  refine wa_iconst (v := 0) (by decide) ?_
  refine wa_istore_nD (lv' := [(2, .int 0), (1, .int (bI false)), (0, .ref 84)]) (i := 2) rfl (by decide) rfl ?_
  refine wa_pick [2, 1, 0] rfl ?_
  have hi2 : ∀ (n9_4 : Nat) (l1 : Bool) (l2 : Int32), ((0 ≤ l2.toInt) ∧ (True)) → (2147483647 - l2.toInt).toNat = n9_4 → WA G M_X12_isWild (ZM G M_X12_isWild d (fun r σ' => ∃ x : Bool, r = some (.int (bI x)) ∧ σ = σ' ∧ True)) B_X12_isWild_4 [(0, .ref 84), (1, .int (bI l1)), (2, .int l2)] [] σ := by
    intro n9_4
    induction n9_4 using Nat.strongRecOn with
    | _ n9_4 ih1 =>
      intro l1 l2  i9 m9_4
      obtain ⟨jhi2_0, -⟩ := i9
      have ul2 := Int32.toInt_lt l2
      have wl2 := Int32.le_toInt l2
      refine wa_iload_n (i := 2) rfl rfl ?_
      refine wa_aload_n (i := 0) rfl rfl ?_
      refine wa_geti ck_12 fl_12_815 ly_84 ?_
      refine wa_icmp_ge o_X12_isWild_39 (by decide) (fun h3 => ?_) (fun h3 => ?_)
      · refine wa_iload_n (i := 1) rfl rfl ?_
        refine wa_zreturn l1 (rfl) rfl rfl ?_
        exact ⟨_, rfl, rfl, trivial⟩
      · have mh3 := nle_mx h3
        refine wa_iload_n (i := 1) rfl rfl ?_
        refine wa_if_ne o_X12_isWild_27 (by decide) (fun h4 => ?_) (fun h4 => ?_)
        · replace h4 := bI_t (b := l1) (rfl) h4
          refine wa_iconst (v := 1) (by decide) ?_
          refine wa_goto o_X12_isWild_32 (by decide) ?_
          refine wa_istore_nD (lv' := [(1, .int (bI true)), (0, .ref 84), (2, .int l2)]) (i := 1) rfl (by decide) rfl ?_
          refine wa_iinc (v := (1)) (lv' := fun y5 => [(2, .int y5), (1, .int (bI true)), (0, .ref 84)]) (by decide) rfl (by decide) (fun _ => rfl) (fun y5 hy5 => ?_)
          have ty5 := i_addT hy5.symm
          clear hy5
          refine wa_goto o_X12_isWild_4 (by decide) ?_
          refine wa_pick [2, 1, 0] rfl ?_
          exact ih1 _ (by ((try simp only [vp_in_iff, Int32.lt_iff_toInt_lt, Int32.le_iff_toInt_le, ← Int32.toInt_inj, Int32.reduceToInt, n_1, n_2, n_8, Int32.toNatClampNeg, Int64.lt_iff_toInt_lt, Int64.le_iff_toInt_le, ← Int64.toInt_inj, Int64.reduceToInt, Int32.toInt_toInt64, lg_cmp_ge, lg_cmp_le, lg_cmp_gt, lg_cmp_lt, lg_cmp_eq, Bool.false_eq_true, Bool.true_eq_false, reduceCtorEq, false_iff, true_iff, iff_true, iff_false, and_true, true_and, and_false, false_and, reduceIte, ite_true, ite_false, eq_self] at *)) <;> omega) _ _ ⟨(by ((try simp only [vp_in_iff, Int32.lt_iff_toInt_lt, Int32.le_iff_toInt_le, ← Int32.toInt_inj, Int32.reduceToInt, n_1, n_2, n_8, Int32.toNatClampNeg, Int64.lt_iff_toInt_lt, Int64.le_iff_toInt_le, ← Int64.toInt_inj, Int64.reduceToInt, Int32.toInt_toInt64, lg_cmp_ge, lg_cmp_le, lg_cmp_gt, lg_cmp_lt, lg_cmp_eq, Bool.false_eq_true, Bool.true_eq_false, reduceCtorEq, false_iff, true_iff, iff_true, iff_false, and_true, true_and, and_false, false_and, reduceIte, ite_true, ite_false, eq_self] at *)) <;> omega), trivial⟩ rfl
        · replace h4 := bI_f (b := l1) (rfl) h4
          refine wa_aload_n (i := 0) rfl rfl ?_
          refine wa_getr ck_12 fl_12_409 ly_84 rf_84_166 ?_
          refine wa_iload_n (i := 2) rfl rfl ?_
          refine wa_lald ly_100 (by ((try simp only [vp_in_iff, Int32.lt_iff_toInt_lt, Int32.le_iff_toInt_le, ← Int32.toInt_inj, Int32.reduceToInt, n_1, n_2, n_8, Int32.toNatClampNeg, Int64.lt_iff_toInt_lt, Int64.le_iff_toInt_le, ← Int64.toInt_inj, Int64.reduceToInt, Int32.toInt_toInt64, lg_cmp_ge, lg_cmp_le, lg_cmp_gt, lg_cmp_lt, lg_cmp_eq, Bool.false_eq_true, Bool.true_eq_false, reduceCtorEq, false_iff, true_iff, iff_true, iff_false, and_true, true_and, and_false, false_and, reduceIte, ite_true, ite_false, eq_self] at *)) <;> omega) ?_
          refine wa_lconst (v := 0) (by decide) ?_
          refine wa_lcmp ?_
          refine wa_top (fun v6 hv6 => ?_)
          have tv6 := i_cmpT hv6
          clear hv6
          refine wa_if_eq o_X12_isWild_31 (by decide) (fun h7 => ?_) (fun h7 => ?_)
          · refine wa_iconst (v := 0) (by decide) ?_
            refine wa_istore_nD (lv' := [(1, .int (bI false)), (0, .ref 84), (2, .int l2)]) (i := 1) rfl (by decide) rfl ?_
            refine wa_iinc (v := (1)) (lv' := fun y8 => [(2, .int y8), (1, .int (bI false)), (0, .ref 84)]) (by decide) rfl (by decide) (fun _ => rfl) (fun y8 hy8 => ?_)
            have ty8 := i_addT hy8.symm
            clear hy8
            refine wa_goto o_X12_isWild_4 (by decide) ?_
            refine wa_pick [2, 1, 0] rfl ?_
            exact ih1 _ (by ((try simp only [vp_in_iff, Int32.lt_iff_toInt_lt, Int32.le_iff_toInt_le, ← Int32.toInt_inj, Int32.reduceToInt, n_1, n_2, n_8, Int32.toNatClampNeg, Int64.lt_iff_toInt_lt, Int64.le_iff_toInt_le, ← Int64.toInt_inj, Int64.reduceToInt, Int32.toInt_toInt64, lg_cmp_ge, lg_cmp_le, lg_cmp_gt, lg_cmp_lt, lg_cmp_eq, Bool.false_eq_true, Bool.true_eq_false, reduceCtorEq, false_iff, true_iff, iff_true, iff_false, and_true, true_and, and_false, false_and, reduceIte, ite_true, ite_false, eq_self] at *)) <;> omega) _ _ ⟨(by ((try simp only [vp_in_iff, Int32.lt_iff_toInt_lt, Int32.le_iff_toInt_le, ← Int32.toInt_inj, Int32.reduceToInt, n_1, n_2, n_8, Int32.toNatClampNeg, Int64.lt_iff_toInt_lt, Int64.le_iff_toInt_le, ← Int64.toInt_inj, Int64.reduceToInt, Int32.toInt_toInt64, lg_cmp_ge, lg_cmp_le, lg_cmp_gt, lg_cmp_lt, lg_cmp_eq, Bool.false_eq_true, Bool.true_eq_false, reduceCtorEq, false_iff, true_iff, iff_true, iff_false, and_true, true_and, and_false, false_and, reduceIte, ite_true, ite_false, eq_self] at *)) <;> omega), trivial⟩ rfl
          · refine wa_iconst (v := 1) (by decide) ?_
            refine wa_goto o_X12_isWild_32 (by decide) ?_
            refine wa_istore_nD (lv' := [(1, .int (bI true)), (0, .ref 84), (2, .int l2)]) (i := 1) rfl (by decide) rfl ?_
            refine wa_iinc (v := (1)) (lv' := fun y9 => [(2, .int y9), (1, .int (bI true)), (0, .ref 84)]) (by decide) rfl (by decide) (fun _ => rfl) (fun y9 hy9 => ?_)
            have ty9 := i_addT hy9.symm
            clear hy9
            refine wa_goto o_X12_isWild_4 (by decide) ?_
            refine wa_pick [2, 1, 0] rfl ?_
            exact ih1 _ (by ((try simp only [vp_in_iff, Int32.lt_iff_toInt_lt, Int32.le_iff_toInt_le, ← Int32.toInt_inj, Int32.reduceToInt, n_1, n_2, n_8, Int32.toNatClampNeg, Int64.lt_iff_toInt_lt, Int64.le_iff_toInt_le, ← Int64.toInt_inj, Int64.reduceToInt, Int32.toInt_toInt64, lg_cmp_ge, lg_cmp_le, lg_cmp_gt, lg_cmp_lt, lg_cmp_eq, Bool.false_eq_true, Bool.true_eq_false, reduceCtorEq, false_iff, true_iff, iff_true, iff_false, and_true, true_and, and_false, false_and, reduceIte, ite_true, ite_false, eq_self] at *)) <;> omega) _ _ ⟨(by ((try simp only [vp_in_iff, Int32.lt_iff_toInt_lt, Int32.le_iff_toInt_le, ← Int32.toInt_inj, Int32.reduceToInt, n_1, n_2, n_8, Int32.toNatClampNeg, Int64.lt_iff_toInt_lt, Int64.le_iff_toInt_le, ← Int64.toInt_inj, Int64.reduceToInt, Int32.toInt_toInt64, lg_cmp_ge, lg_cmp_le, lg_cmp_gt, lg_cmp_lt, lg_cmp_eq, Bool.false_eq_true, Bool.true_eq_false, reduceCtorEq, false_iff, true_iff, iff_true, iff_false, and_true, true_and, and_false, false_and, reduceIte, ite_true, ite_false, eq_self] at *)) <;> omega), trivial⟩ rfl
  exact hi2 _ _ _ ⟨(by ((try simp only [vp_in_iff, Int32.lt_iff_toInt_lt, Int32.le_iff_toInt_le, ← Int32.toInt_inj, Int32.reduceToInt, n_1, n_2, n_8, Int32.toNatClampNeg, Int64.lt_iff_toInt_lt, Int64.le_iff_toInt_le, ← Int64.toInt_inj, Int64.reduceToInt, Int32.toInt_toInt64, lg_cmp_ge, lg_cmp_le, lg_cmp_gt, lg_cmp_lt, lg_cmp_eq, Bool.false_eq_true, Bool.true_eq_false, reduceCtorEq, false_iff, true_iff, iff_true, iff_false, and_true, true_and, and_false, false_and, reduceIte, ite_true, ite_false, eq_self] at *)) <;> omega), trivial⟩ rfl
set_option maxHeartbeats 4000000 in
theorem sp_X12_fraction (G : kG9) {d : Nat} (hd : 1 ≤ d) (σ : St) (a0 : Int32) : Ct G M_X12_fraction d [.ref 84, .int a0] σ (fun r σ' => ∃ x : Int64, r = some (.long x) ∧ Fm [] [0] σ σ' ∧ True) := by
  refine wa_start (by decide) rfl (Nat.le_of_ble_eq_true rfl) (lv := [(0, .ref 84), (1, .int a0)]) rfl o_X12_fraction_0 rfl ?_
  have ua0 := Int32.toInt_lt a0
  have wa0 := Int32.le_toInt a0
  refine wa_aload_n (i := 0) rfl rfl ?_
  refine wa_iload_n (i := 1) rfl rfl ?_
  refine wa_i2l ?_
  refine wa_lconst (v := 0) (by decide) ?_
  refine wa_aload_n (i := 0) rfl rfl ?_
  refine wa_geti ck_12 fl_12_1160 ly_84 ?_
  refine wa_iconst (v := 1) (by decide) ?_
  refine wa_isub ?_
  refine wa_top (fun v1 hv1 => ?_)
  have tv1 := i_subT hv1
  clear hv1
  refine wa_i2l ?_
  refine wa_Si (d9 := d - 1) [.long _, .long _, .long _] [.ref 84] (sp_X12_in G (d := d - 1) (by omega) σ _ _ _) (rfl) rfl rfl (zr (by omega)) mk_X12_in ml_12_504 (Nat.le_of_ble_eq_true rfl) (fun x3 s2 hs2 => ?_)
  obtain ⟨bx3, ex3, zs2, cx3_1, -⟩ := pB hs2
  subst ex3
  subst zs2
  refine wa_if_eq o_X12_fraction_21 (by decide) (fun h4 => ?_) (fun h4 => ?_)
  · replace h4 := bI_f (b := bx3) (rfl) h4
    have uh4_0 := iff_f cx3_1 h4
    refine wa_iconst (v := 1) (by decide) ?_
    refine wa_puti ck_12 fl_12_3 ly_84 (fun s5 hs5 => ?_)
    have Fs5 : Fm [] [0] σ s5 := by rw [hs5]; exact Fm.si (Fm.rf [] [0] σ) rfl
    refine wa_aload_n (i := 0) rfl rfl ?_
    refine wa_geti ck_12 fl_12_3 ly_84 ?_
    refine wa_rw (nxe_gi_si hs5) ?_
    refine wa_if_le o_X12_fraction_36 (by decide) (fun h6 => ?_) (fun h6 => ?_)
    · refine wa_aload_n (i := 0) rfl rfl ?_
      refine wa_getr ck_12 fl_12_412 ly_84 rf_84_170 ?_
      refine wa_iload_n (i := 1) rfl rfl ?_
      refine wa_lald ly_99 (by ((try simp only [vp_in_iff, Int32.lt_iff_toInt_lt, Int32.le_iff_toInt_le, ← Int32.toInt_inj, Int32.reduceToInt, n_1, n_2, n_8, Int32.toNatClampNeg, Int64.lt_iff_toInt_lt, Int64.le_iff_toInt_le, ← Int64.toInt_inj, Int64.reduceToInt, Int32.toInt_toInt64, lg_cmp_ge, lg_cmp_le, lg_cmp_gt, lg_cmp_lt, lg_cmp_eq, Bool.false_eq_true, Bool.true_eq_false, reduceCtorEq, false_iff, true_iff, iff_true, iff_false, and_true, true_and, and_false, false_and, reduceIte, ite_true, ite_false, eq_self] at *)) <;> omega) ?_
      refine wa_lreturn rfl rfl ?_
      exact ⟨_, rfl, Fs5, trivial⟩
    · refine wa_lconst (v := 0) (by decide) ?_
      refine wa_goto o_X12_fraction_42 (by decide) ?_
      refine wa_lreturn rfl rfl ?_
      exact ⟨_, rfl, Fs5, trivial⟩
  · replace h4 := bI_t (b := bx3) (rfl) h4
    have uh4_0 := iff_t cx3_1 h4
    refine wa_iconst (v := 0) (by decide) ?_
    refine wa_goto o_X12_fraction_22 (by decide) ?_
    refine wa_puti ck_12 fl_12_3 ly_84 (fun s7 hs7 => ?_)
    have Fs7 : Fm [] [0] σ s7 := by rw [hs7]; exact Fm.si (Fm.rf [] [0] σ) rfl
    refine wa_aload_n (i := 0) rfl rfl ?_
    refine wa_geti ck_12 fl_12_3 ly_84 ?_
    refine wa_rw (nxe_gi_si hs7) ?_
    refine wa_if_le o_X12_fraction_36 (by decide) (fun h8 => ?_) (fun h8 => ?_)
    · refine wa_aload_n (i := 0) rfl rfl ?_
      refine wa_getr ck_12 fl_12_412 ly_84 rf_84_170 ?_
      refine wa_iload_n (i := 1) rfl rfl ?_
      refine wa_lald ly_99 (by ((try simp only [vp_in_iff, Int32.lt_iff_toInt_lt, Int32.le_iff_toInt_le, ← Int32.toInt_inj, Int32.reduceToInt, n_1, n_2, n_8, Int32.toNatClampNeg, Int64.lt_iff_toInt_lt, Int64.le_iff_toInt_le, ← Int64.toInt_inj, Int64.reduceToInt, Int32.toInt_toInt64, lg_cmp_ge, lg_cmp_le, lg_cmp_gt, lg_cmp_lt, lg_cmp_eq, Bool.false_eq_true, Bool.true_eq_false, reduceCtorEq, false_iff, true_iff, iff_true, iff_false, and_true, true_and, and_false, false_and, reduceIte, ite_true, ite_false, eq_self] at *)) <;> omega) ?_
      refine wa_lreturn rfl rfl ?_
      exact ⟨_, rfl, Fs7, trivial⟩
    · refine wa_lconst (v := 0) (by decide) ?_
      refine wa_goto o_X12_fraction_42 (by decide) ?_
      refine wa_lreturn rfl rfl ?_
      exact ⟨_, rfl, Fs7, trivial⟩
set_option maxHeartbeats 4000000 in
theorem sp_X12_pile (G : kG9) {d : Nat} (hd : 0 ≤ d) (σ : St) : Ct G M_X12_pile d [.ref 84] σ (fun r σ' => Fm [96, 97, 98] [175] σ σ' ∧ True) := by
  refine wa_start (by decide) rfl (Nat.le_of_ble_eq_true rfl) (lv := [(0, .ref 84)]) rfl o_X12_pile_0 rfl ?_
  refine wa_iconst (v := 0) (by decide) ?_
  refine wa_istore_nD (lv' := [(1, .int 0), (0, .ref 84)]) (i := 1) rfl (by decide) rfl ?_
  refine wa_pick [1, 0] rfl ?_
  have hi3 : ∀ (n9_2 : Nat) (l1 : Int32) (s1 : St), ((Fm [96, 97, 98] [175] σ s1) ∧ (gi s1 84 160 = gi σ 84 160) ∧ (gi s1 84 175 = gi σ 84 175) ∧ (0 ≤ l1.toInt) ∧ (True)) → (2147483647 - l1.toInt).toNat = n9_2 → WA G M_X12_pile (ZM G M_X12_pile d (fun r σ' => Fm [96, 97, 98] [175] σ σ' ∧ True)) B_X12_pile_2 [(0, .ref 84), (1, .int l1)] [] s1 := by
    intro n9_2
    induction n9_2 using Nat.strongRecOn with
    | _ n9_2 ih2 =>
      intro l1 s1 i9 m9_2
      obtain ⟨Fs1, khi3_0, khi3_1, jhi3_0, -⟩ := i9
      have ul1 := Int32.toInt_lt l1
      have wl1 := Int32.le_toInt l1
      refine wa_iload_n (i := 1) rfl rfl ?_
      refine wa_iconst (v := 4) (by decide) ?_
      refine wa_aload_n (i := 0) rfl rfl ?_
      refine wa_geti ck_12 fl_12_1067 ly_84 ?_
      refine wa_rw (khi3_0) ?_
      refine wa_imul ?_
      refine wa_top (fun v4 hv4 => ?_)
      have tv4 := i_mulT hv4
      clear hv4
      refine wa_icmp_ge o_X12_pile_39 (by decide) (fun h5 => ?_) (fun h5 => ?_)
      · refine wa_iconst (v := 0) (by decide) ?_
        refine wa_istore_nD (lv' := [(1, .int 0), (0, .ref 84)]) (i := 1) rfl (by decide) rfl ?_
        refine wa_pick [1, 0] rfl ?_
        have hi8 : ∀ (n9_41 : Nat) (l1 : Int32) (s6 : St), ((Fm [96, 97, 98] [175] σ s6) ∧ (gi s6 84 160 = gi σ 84 160) ∧ (gi s6 84 175 = gi σ 84 175) ∧ (0 ≤ l1.toInt) ∧ (True)) → (2147483647 - l1.toInt).toNat = n9_41 → WA G M_X12_pile (ZM G M_X12_pile d (fun r σ' => Fm [96, 97, 98] [175] σ σ' ∧ True)) B_X12_pile_41 [(0, .ref 84), (1, .int l1)] [] s6 := by
          intro n9_41
          induction n9_41 using Nat.strongRecOn with
          | _ n9_41 ih7 =>
            intro l1 s6 i9 m9_41
            obtain ⟨Fs6, khi8_0, khi8_1, jhi8_0, -⟩ := i9
            have ul1 := Int32.toInt_lt l1
            have wl1 := Int32.le_toInt l1
            refine wa_iload_n (i := 1) rfl rfl ?_
            refine wa_aload_n (i := 0) rfl rfl ?_
            refine wa_geti ck_12 fl_12_1067 ly_84 ?_
            refine wa_rw (khi8_0) ?_
            refine wa_icmp_ge o_X12_pile_76 (by decide) (fun h9 => ?_) (fun h9 => ?_)
            · refine wa_aload_n (i := 0) rfl rfl ?_
              refine wa_getr ck_12 fl_12_423 ly_84 rf_84_174 ?_
              refine wa_aload_n (i := 0) rfl rfl ?_
              refine wa_geti ck_12 fl_12_1166 ly_84 ?_
              refine wa_rw (khi8_1) ?_
              refine wa_aload_n (i := 0) rfl rfl ?_
              refine wa_geti ck_12 fl_12_1067 ly_84 ?_
              refine wa_rw (khi8_0) ?_
              refine wa_iast ly_96 (by ((try simp only [vp_in_iff, Int32.lt_iff_toInt_lt, Int32.le_iff_toInt_le, ← Int32.toInt_inj, Int32.reduceToInt, n_1, n_2, n_8, Int32.toNatClampNeg, Int64.lt_iff_toInt_lt, Int64.le_iff_toInt_le, ← Int64.toInt_inj, Int64.reduceToInt, Int32.toInt_toInt64, lg_cmp_ge, lg_cmp_le, lg_cmp_gt, lg_cmp_lt, lg_cmp_eq, Bool.false_eq_true, Bool.true_eq_false, reduceCtorEq, false_iff, true_iff, iff_true, iff_false, and_true, true_and, and_false, false_and, reduceIte, ite_true, ite_false, eq_self] at *)) <;> omega) (fun s10 hs10 => ?_)
              have Fs10 : Fm [96, 97, 98] [175] σ s10 := by rw [hs10]; exact Fm.si Fs6 rfl
              refine wa_aload_n (i := 0) rfl rfl ?_
              refine wa_dup rfl ?_
              refine wa_geti ck_12 fl_12_1166 ly_84 ?_
              refine wa_rw ((nxq_gi_si hs10 (by decide)).trans (khi8_1)) ?_
              refine wa_iconst (v := 1) (by decide) ?_
              refine wa_iadd ?_
              refine wa_top (fun v11 hv11 => ?_)
              have tv11 := i_addT hv11
              clear hv11
              refine wa_puti ck_12 fl_12_1166 ly_84 (fun s12 hs12 => ?_)
              have Fs12 : Fm [96, 97, 98] [175] σ s12 := by rw [hs12]; exact Fm.si Fs10 rfl
              refine wa_return (st := []) rfl rfl ?_
              exact ⟨Fs12, trivial⟩
            · have mh9 := nle_mx h9
              refine wa_aload_n (i := 0) rfl rfl ?_
              refine wa_getr ck_12 fl_12_420 ly_84 rf_84_173 ?_
              refine wa_sipush (v := 560) (by decide) ?_
              refine wa_aload_n (i := 0) rfl rfl ?_
              refine wa_geti ck_12 fl_12_1166 ly_84 ?_
              refine wa_rw (khi8_1) ?_
              refine wa_imul ?_
              refine wa_top (fun v13 hv13 => ?_)
              have tv13 := i_mulT hv13
              clear hv13
              refine wa_iload_n (i := 1) rfl rfl ?_
              refine wa_iadd ?_
              refine wa_top (fun v14 hv14 => ?_)
              have tv14 := i_addT hv14
              clear hv14
              refine wa_aload_n (i := 0) rfl rfl ?_
              refine wa_getr ck_12 fl_12_397 ly_84 rf_84_159 ?_
              refine wa_iload_n (i := 1) rfl rfl ?_
              refine wa_lald ly_104 (by ((try simp only [vp_in_iff, Int32.lt_iff_toInt_lt, Int32.le_iff_toInt_le, ← Int32.toInt_inj, Int32.reduceToInt, n_1, n_2, n_8, Int32.toNatClampNeg, Int64.lt_iff_toInt_lt, Int64.le_iff_toInt_le, ← Int64.toInt_inj, Int64.reduceToInt, Int32.toInt_toInt64, lg_cmp_ge, lg_cmp_le, lg_cmp_gt, lg_cmp_lt, lg_cmp_eq, Bool.false_eq_true, Bool.true_eq_false, reduceCtorEq, false_iff, true_iff, iff_true, iff_false, and_true, true_and, and_false, false_and, reduceIte, ite_true, ite_false, eq_self] at *)) <;> omega) ?_
              refine wa_last ly_97 (by ((try simp only [vp_in_iff, Int32.lt_iff_toInt_lt, Int32.le_iff_toInt_le, ← Int32.toInt_inj, Int32.reduceToInt, n_1, n_2, n_8, Int32.toNatClampNeg, Int64.lt_iff_toInt_lt, Int64.le_iff_toInt_le, ← Int64.toInt_inj, Int64.reduceToInt, Int32.toInt_toInt64, lg_cmp_ge, lg_cmp_le, lg_cmp_gt, lg_cmp_lt, lg_cmp_eq, Bool.false_eq_true, Bool.true_eq_false, reduceCtorEq, false_iff, true_iff, iff_true, iff_false, and_true, true_and, and_false, false_and, reduceIte, ite_true, ite_false, eq_self] at *)) <;> omega) (fun s15 hs15 => ?_)
              have Fs15 : Fm [96, 97, 98] [175] σ s15 := by rw [hs15]; exact Fm.sl Fs6 rfl
              refine wa_iinc (v := (1)) (lv' := fun y16 => [(1, .int y16), (0, .ref 84)]) (by decide) rfl (by decide) (fun _ => rfl) (fun y16 hy16 => ?_)
              have ty16 := i_addT hy16.symm
              clear hy16
              refine wa_goto o_X12_pile_41 (by decide) ?_
              refine wa_pick [1, 0] rfl ?_
              exact ih7 _ (by ((try simp only [vp_in_iff, Int32.lt_iff_toInt_lt, Int32.le_iff_toInt_le, ← Int32.toInt_inj, Int32.reduceToInt, n_1, n_2, n_8, Int32.toNatClampNeg, Int64.lt_iff_toInt_lt, Int64.le_iff_toInt_le, ← Int64.toInt_inj, Int64.reduceToInt, Int32.toInt_toInt64, lg_cmp_ge, lg_cmp_le, lg_cmp_gt, lg_cmp_lt, lg_cmp_eq, Bool.false_eq_true, Bool.true_eq_false, reduceCtorEq, false_iff, true_iff, iff_true, iff_false, and_true, true_and, and_false, false_and, reduceIte, ite_true, ite_false, eq_self] at *)) <;> omega) _ _ ⟨Fs15, ((nx_gi_sl hs15).trans (khi8_0)), ((nx_gi_sl hs15).trans (khi8_1)), (by ((try simp only [vp_in_iff, Int32.lt_iff_toInt_lt, Int32.le_iff_toInt_le, ← Int32.toInt_inj, Int32.reduceToInt, n_1, n_2, n_8, Int32.toNatClampNeg, Int64.lt_iff_toInt_lt, Int64.le_iff_toInt_le, ← Int64.toInt_inj, Int64.reduceToInt, Int32.toInt_toInt64, lg_cmp_ge, lg_cmp_le, lg_cmp_gt, lg_cmp_lt, lg_cmp_eq, Bool.false_eq_true, Bool.true_eq_false, reduceCtorEq, false_iff, true_iff, iff_true, iff_false, and_true, true_and, and_false, false_and, reduceIte, ite_true, ite_false, eq_self] at *)) <;> omega), trivial⟩ rfl
        exact hi8 _ _ _ ⟨Fs1, (khi3_0), (khi3_1), (by ((try simp only [vp_in_iff, Int32.lt_iff_toInt_lt, Int32.le_iff_toInt_le, ← Int32.toInt_inj, Int32.reduceToInt, n_1, n_2, n_8, Int32.toNatClampNeg, Int64.lt_iff_toInt_lt, Int64.le_iff_toInt_le, ← Int64.toInt_inj, Int64.reduceToInt, Int32.toInt_toInt64, lg_cmp_ge, lg_cmp_le, lg_cmp_gt, lg_cmp_lt, lg_cmp_eq, Bool.false_eq_true, Bool.true_eq_false, reduceCtorEq, false_iff, true_iff, iff_true, iff_false, and_true, true_and, and_false, false_and, reduceIte, ite_true, ite_false, eq_self] at *)) <;> omega), trivial⟩ rfl
      · have mh5 := nle_mx h5
        refine wa_aload_n (i := 0) rfl rfl ?_
        refine wa_getr ck_12 fl_12_416 ly_84 rf_84_172 ?_
        refine wa_sipush (v := 2240) (by decide) ?_
        refine wa_aload_n (i := 0) rfl rfl ?_
        refine wa_geti ck_12 fl_12_1166 ly_84 ?_
        refine wa_rw (khi3_1) ?_
        refine wa_imul ?_
        refine wa_top (fun v17 hv17 => ?_)
        have tv17 := i_mulT hv17
        clear hv17
        refine wa_iload_n (i := 1) rfl rfl ?_
        refine wa_iadd ?_
        refine wa_top (fun v18 hv18 => ?_)
        have tv18 := i_addT hv18
        clear hv18
        refine wa_aload_n (i := 0) rfl rfl ?_
        refine wa_getr ck_12 fl_12_394 ly_84 rf_84_158 ?_
        refine wa_iload_n (i := 1) rfl rfl ?_
        refine wa_lald ly_105 (by ((try simp only [vp_in_iff, Int32.lt_iff_toInt_lt, Int32.le_iff_toInt_le, ← Int32.toInt_inj, Int32.reduceToInt, n_1, n_2, n_8, Int32.toNatClampNeg, Int64.lt_iff_toInt_lt, Int64.le_iff_toInt_le, ← Int64.toInt_inj, Int64.reduceToInt, Int32.toInt_toInt64, lg_cmp_ge, lg_cmp_le, lg_cmp_gt, lg_cmp_lt, lg_cmp_eq, Bool.false_eq_true, Bool.true_eq_false, reduceCtorEq, false_iff, true_iff, iff_true, iff_false, and_true, true_and, and_false, false_and, reduceIte, ite_true, ite_false, eq_self] at *)) <;> omega) ?_
        refine wa_last ly_98 (by ((try simp only [vp_in_iff, Int32.lt_iff_toInt_lt, Int32.le_iff_toInt_le, ← Int32.toInt_inj, Int32.reduceToInt, n_1, n_2, n_8, Int32.toNatClampNeg, Int64.lt_iff_toInt_lt, Int64.le_iff_toInt_le, ← Int64.toInt_inj, Int64.reduceToInt, Int32.toInt_toInt64, lg_cmp_ge, lg_cmp_le, lg_cmp_gt, lg_cmp_lt, lg_cmp_eq, Bool.false_eq_true, Bool.true_eq_false, reduceCtorEq, false_iff, true_iff, iff_true, iff_false, and_true, true_and, and_false, false_and, reduceIte, ite_true, ite_false, eq_self] at *)) <;> omega) (fun s19 hs19 => ?_)
        have Fs19 : Fm [96, 97, 98] [175] σ s19 := by rw [hs19]; exact Fm.sl Fs1 rfl
        refine wa_iinc (v := (1)) (lv' := fun y20 => [(1, .int y20), (0, .ref 84)]) (by decide) rfl (by decide) (fun _ => rfl) (fun y20 hy20 => ?_)
        have ty20 := i_addT hy20.symm
        clear hy20
        refine wa_goto o_X12_pile_2 (by decide) ?_
        refine wa_pick [1, 0] rfl ?_
        exact ih2 _ (by ((try simp only [vp_in_iff, Int32.lt_iff_toInt_lt, Int32.le_iff_toInt_le, ← Int32.toInt_inj, Int32.reduceToInt, n_1, n_2, n_8, Int32.toNatClampNeg, Int64.lt_iff_toInt_lt, Int64.le_iff_toInt_le, ← Int64.toInt_inj, Int64.reduceToInt, Int32.toInt_toInt64, lg_cmp_ge, lg_cmp_le, lg_cmp_gt, lg_cmp_lt, lg_cmp_eq, Bool.false_eq_true, Bool.true_eq_false, reduceCtorEq, false_iff, true_iff, iff_true, iff_false, and_true, true_and, and_false, false_and, reduceIte, ite_true, ite_false, eq_self] at *)) <;> omega) _ _ ⟨Fs19, ((nx_gi_sl hs19).trans (khi3_0)), ((nx_gi_sl hs19).trans (khi3_1)), (by ((try simp only [vp_in_iff, Int32.lt_iff_toInt_lt, Int32.le_iff_toInt_le, ← Int32.toInt_inj, Int32.reduceToInt, n_1, n_2, n_8, Int32.toNatClampNeg, Int64.lt_iff_toInt_lt, Int64.le_iff_toInt_le, ← Int64.toInt_inj, Int64.reduceToInt, Int32.toInt_toInt64, lg_cmp_ge, lg_cmp_le, lg_cmp_gt, lg_cmp_lt, lg_cmp_eq, Bool.false_eq_true, Bool.true_eq_false, reduceCtorEq, false_iff, true_iff, iff_true, iff_false, and_true, true_and, and_false, false_and, reduceIte, ite_true, ite_false, eq_self] at *)) <;> omega), trivial⟩ rfl
  exact hi3 _ _ _ ⟨(Fm.rf [96, 97, 98] [175] σ), (rfl), (rfl), (by ((try simp only [vp_in_iff, Int32.lt_iff_toInt_lt, Int32.le_iff_toInt_le, ← Int32.toInt_inj, Int32.reduceToInt, n_1, n_2, n_8, Int32.toNatClampNeg, Int64.lt_iff_toInt_lt, Int64.le_iff_toInt_le, ← Int64.toInt_inj, Int64.reduceToInt, Int32.toInt_toInt64, lg_cmp_ge, lg_cmp_le, lg_cmp_gt, lg_cmp_lt, lg_cmp_eq, Bool.false_eq_true, Bool.true_eq_false, reduceCtorEq, false_iff, true_iff, iff_true, iff_false, and_true, true_and, and_false, false_and, reduceIte, ite_true, ite_false, eq_self] at *)) <;> omega), trivial⟩ rfl
set_option maxHeartbeats 4000000 in
theorem sp_X12_takeNode (G : kG9) {d : Nat} (hd : 0 ≤ d) (σ : St) : Ct G M_X12_takeNode d [.ref 84] σ (fun r σ' => Fm [104, 105] [160, 175] σ σ' ∧ True) := by
  refine wa_start (by decide) rfl (Nat.le_of_ble_eq_true rfl) (lv := [(0, .ref 84)]) rfl o_X12_takeNode_0 rfl ?_
  refine wa_aload_n (i := 0) rfl rfl ?_
  refine wa_dup rfl ?_
  refine wa_geti ck_12 fl_12_1166 ly_84 ?_
  refine wa_iconst (v := 1) (by decide) ?_
  refine wa_isub ?_
  refine wa_top (fun v1 hv1 => ?_)
  have tv1 := i_subT hv1
  clear hv1
  refine wa_puti ck_12 fl_12_1166 ly_84 (fun s2 hs2 => ?_)
  have Fs2 : Fm [104, 105] [160, 175] σ s2 := by rw [hs2]; exact Fm.si (Fm.rf [104, 105] [160, 175] σ) rfl
  refine wa_aload_n (i := 0) rfl rfl ?_
  refine wa_aload_n (i := 0) rfl rfl ?_
  refine wa_getr ck_12 fl_12_423 ly_84 rf_84_174 ?_
  refine wa_aload_n (i := 0) rfl rfl ?_
  refine wa_geti ck_12 fl_12_1166 ly_84 ?_
  refine wa_rw (nxe_gi_si hs2) ?_
  refine wa_iald ly_96 (by ((try simp only [vp_in_iff, Int32.lt_iff_toInt_lt, Int32.le_iff_toInt_le, ← Int32.toInt_inj, Int32.reduceToInt, n_1, n_2, n_8, Int32.toNatClampNeg, Int64.lt_iff_toInt_lt, Int64.le_iff_toInt_le, ← Int64.toInt_inj, Int64.reduceToInt, Int32.toInt_toInt64, lg_cmp_ge, lg_cmp_le, lg_cmp_gt, lg_cmp_lt, lg_cmp_eq, Bool.false_eq_true, Bool.true_eq_false, reduceCtorEq, false_iff, true_iff, iff_true, iff_false, and_true, true_and, and_false, false_and, reduceIte, ite_true, ite_false, eq_self] at *)) <;> omega) ?_
  refine wa_puti ck_12 fl_12_1067 ly_84 (fun s3 hs3 => ?_)
  have Fs3 : Fm [104, 105] [160, 175] σ s3 := by rw [hs3]; exact Fm.si Fs2 rfl
  refine wa_iconst (v := 0) (by decide) ?_
  refine wa_istore_nD (lv' := [(1, .int 0), (0, .ref 84)]) (i := 1) rfl (by decide) rfl ?_
  refine wa_pick [1, 0] rfl ?_
  have hi6 : ∀ (n9_25 : Nat) (l1 : Int32) (s4 : St), ((Fm [104, 105] [160, 175] σ s4) ∧ (gi s4 84 175 = v1) ∧ (gi s4 84 160 = (gi s2 96 (v1).toNatClampNeg)) ∧ (0 ≤ l1.toInt) ∧ (True)) → (2147483647 - l1.toInt).toNat = n9_25 → WA G M_X12_takeNode (ZM G M_X12_takeNode d (fun r σ' => Fm [104, 105] [160, 175] σ σ' ∧ True)) B_X12_takeNode_25 [(0, .ref 84), (1, .int l1)] [] s4 := by
    intro n9_25
    induction n9_25 using Nat.strongRecOn with
    | _ n9_25 ih5 =>
      intro l1 s4 i9 m9_25
      obtain ⟨Fs4, khi6_0, khi6_1, jhi6_0, -⟩ := i9
      have ul1 := Int32.toInt_lt l1
      have wl1 := Int32.le_toInt l1
      refine wa_iload_n (i := 1) rfl rfl ?_
      refine wa_iconst (v := 4) (by decide) ?_
      refine wa_aload_n (i := 0) rfl rfl ?_
      refine wa_geti ck_12 fl_12_1067 ly_84 ?_
      refine wa_rw (khi6_1) ?_
      refine wa_imul ?_
      refine wa_top (fun v7 hv7 => ?_)
      have tv7 := i_mulT hv7
      clear hv7
      refine wa_icmp_ge o_X12_takeNode_62 (by decide) (fun h8 => ?_) (fun h8 => ?_)
      · refine wa_iconst (v := 0) (by decide) ?_
        refine wa_istore_nD (lv' := [(1, .int 0), (0, .ref 84)]) (i := 1) rfl (by decide) rfl ?_
        refine wa_pick [1, 0] rfl ?_
        have hi11 : ∀ (n9_64 : Nat) (l1 : Int32) (s9 : St), ((Fm [104, 105] [160, 175] σ s9) ∧ (gi s9 84 175 = v1) ∧ (gi s9 84 160 = (gi s2 96 (v1).toNatClampNeg)) ∧ (0 ≤ l1.toInt) ∧ (True)) → (2147483647 - l1.toInt).toNat = n9_64 → WA G M_X12_takeNode (ZM G M_X12_takeNode d (fun r σ' => Fm [104, 105] [160, 175] σ σ' ∧ True)) B_X12_takeNode_64 [(0, .ref 84), (1, .int l1)] [] s9 := by
          intro n9_64
          induction n9_64 using Nat.strongRecOn with
          | _ n9_64 ih10 =>
            intro l1 s9 i9 m9_64
            obtain ⟨Fs9, khi11_0, khi11_1, jhi11_0, -⟩ := i9
            have ul1 := Int32.toInt_lt l1
            have wl1 := Int32.le_toInt l1
            refine wa_iload_n (i := 1) rfl rfl ?_
            refine wa_aload_n (i := 0) rfl rfl ?_
            refine wa_geti ck_12 fl_12_1067 ly_84 ?_
            refine wa_rw (khi11_1) ?_
            refine wa_icmp_ge o_X12_takeNode_99 (by decide) (fun h12 => ?_) (fun h12 => ?_)
            · refine wa_return (st := []) rfl rfl ?_
              exact ⟨Fs9, trivial⟩
            · have mh12 := nle_mx h12
              refine wa_aload_n (i := 0) rfl rfl ?_
              refine wa_getr ck_12 fl_12_397 ly_84 rf_84_159 ?_
              refine wa_iload_n (i := 1) rfl rfl ?_
              refine wa_aload_n (i := 0) rfl rfl ?_
              refine wa_getr ck_12 fl_12_420 ly_84 rf_84_173 ?_
              refine wa_sipush (v := 560) (by decide) ?_
              refine wa_aload_n (i := 0) rfl rfl ?_
              refine wa_geti ck_12 fl_12_1166 ly_84 ?_
              refine wa_rw (khi11_0) ?_
              refine wa_imul ?_
              refine wa_top (fun v13 hv13 => ?_)
              have tv13 := i_mulT hv13
              clear hv13
              refine wa_iload_n (i := 1) rfl rfl ?_
              refine wa_iadd ?_
              refine wa_top (fun v14 hv14 => ?_)
              have tv14 := i_addT hv14
              clear hv14
              refine wa_lald ly_97 (by ((try simp only [vp_in_iff, Int32.lt_iff_toInt_lt, Int32.le_iff_toInt_le, ← Int32.toInt_inj, Int32.reduceToInt, n_1, n_2, n_8, Int32.toNatClampNeg, Int64.lt_iff_toInt_lt, Int64.le_iff_toInt_le, ← Int64.toInt_inj, Int64.reduceToInt, Int32.toInt_toInt64, lg_cmp_ge, lg_cmp_le, lg_cmp_gt, lg_cmp_lt, lg_cmp_eq, Bool.false_eq_true, Bool.true_eq_false, reduceCtorEq, false_iff, true_iff, iff_true, iff_false, and_true, true_and, and_false, false_and, reduceIte, ite_true, ite_false, eq_self] at *)) <;> omega) ?_
              refine wa_last ly_104 (by ((try simp only [vp_in_iff, Int32.lt_iff_toInt_lt, Int32.le_iff_toInt_le, ← Int32.toInt_inj, Int32.reduceToInt, n_1, n_2, n_8, Int32.toNatClampNeg, Int64.lt_iff_toInt_lt, Int64.le_iff_toInt_le, ← Int64.toInt_inj, Int64.reduceToInt, Int32.toInt_toInt64, lg_cmp_ge, lg_cmp_le, lg_cmp_gt, lg_cmp_lt, lg_cmp_eq, Bool.false_eq_true, Bool.true_eq_false, reduceCtorEq, false_iff, true_iff, iff_true, iff_false, and_true, true_and, and_false, false_and, reduceIte, ite_true, ite_false, eq_self] at *)) <;> omega) (fun s15 hs15 => ?_)
              have Fs15 : Fm [104, 105] [160, 175] σ s15 := by rw [hs15]; exact Fm.sl Fs9 rfl
              refine wa_iinc (v := (1)) (lv' := fun y16 => [(1, .int y16), (0, .ref 84)]) (by decide) rfl (by decide) (fun _ => rfl) (fun y16 hy16 => ?_)
              have ty16 := i_addT hy16.symm
              clear hy16
              refine wa_goto o_X12_takeNode_64 (by decide) ?_
              refine wa_pick [1, 0] rfl ?_
              exact ih10 _ (by ((try simp only [vp_in_iff, Int32.lt_iff_toInt_lt, Int32.le_iff_toInt_le, ← Int32.toInt_inj, Int32.reduceToInt, n_1, n_2, n_8, Int32.toNatClampNeg, Int64.lt_iff_toInt_lt, Int64.le_iff_toInt_le, ← Int64.toInt_inj, Int64.reduceToInt, Int32.toInt_toInt64, lg_cmp_ge, lg_cmp_le, lg_cmp_gt, lg_cmp_lt, lg_cmp_eq, Bool.false_eq_true, Bool.true_eq_false, reduceCtorEq, false_iff, true_iff, iff_true, iff_false, and_true, true_and, and_false, false_and, reduceIte, ite_true, ite_false, eq_self] at *)) <;> omega) _ _ ⟨Fs15, ((nx_gi_sl hs15).trans (khi11_0)), ((nx_gi_sl hs15).trans (khi11_1)), (by ((try simp only [vp_in_iff, Int32.lt_iff_toInt_lt, Int32.le_iff_toInt_le, ← Int32.toInt_inj, Int32.reduceToInt, n_1, n_2, n_8, Int32.toNatClampNeg, Int64.lt_iff_toInt_lt, Int64.le_iff_toInt_le, ← Int64.toInt_inj, Int64.reduceToInt, Int32.toInt_toInt64, lg_cmp_ge, lg_cmp_le, lg_cmp_gt, lg_cmp_lt, lg_cmp_eq, Bool.false_eq_true, Bool.true_eq_false, reduceCtorEq, false_iff, true_iff, iff_true, iff_false, and_true, true_and, and_false, false_and, reduceIte, ite_true, ite_false, eq_self] at *)) <;> omega), trivial⟩ rfl
        exact hi11 _ _ _ ⟨Fs4, (khi6_0), (khi6_1), (by ((try simp only [vp_in_iff, Int32.lt_iff_toInt_lt, Int32.le_iff_toInt_le, ← Int32.toInt_inj, Int32.reduceToInt, n_1, n_2, n_8, Int32.toNatClampNeg, Int64.lt_iff_toInt_lt, Int64.le_iff_toInt_le, ← Int64.toInt_inj, Int64.reduceToInt, Int32.toInt_toInt64, lg_cmp_ge, lg_cmp_le, lg_cmp_gt, lg_cmp_lt, lg_cmp_eq, Bool.false_eq_true, Bool.true_eq_false, reduceCtorEq, false_iff, true_iff, iff_true, iff_false, and_true, true_and, and_false, false_and, reduceIte, ite_true, ite_false, eq_self] at *)) <;> omega), trivial⟩ rfl
      · have mh8 := nle_mx h8
        refine wa_aload_n (i := 0) rfl rfl ?_
        refine wa_getr ck_12 fl_12_394 ly_84 rf_84_158 ?_
        refine wa_iload_n (i := 1) rfl rfl ?_
        refine wa_aload_n (i := 0) rfl rfl ?_
        refine wa_getr ck_12 fl_12_416 ly_84 rf_84_172 ?_
        refine wa_sipush (v := 2240) (by decide) ?_
        refine wa_aload_n (i := 0) rfl rfl ?_
        refine wa_geti ck_12 fl_12_1166 ly_84 ?_
        refine wa_rw (khi6_0) ?_
        refine wa_imul ?_
        refine wa_top (fun v17 hv17 => ?_)
        have tv17 := i_mulT hv17
        clear hv17
        refine wa_iload_n (i := 1) rfl rfl ?_
        refine wa_iadd ?_
        refine wa_top (fun v18 hv18 => ?_)
        have tv18 := i_addT hv18
        clear hv18
        refine wa_lald ly_98 (by ((try simp only [vp_in_iff, Int32.lt_iff_toInt_lt, Int32.le_iff_toInt_le, ← Int32.toInt_inj, Int32.reduceToInt, n_1, n_2, n_8, Int32.toNatClampNeg, Int64.lt_iff_toInt_lt, Int64.le_iff_toInt_le, ← Int64.toInt_inj, Int64.reduceToInt, Int32.toInt_toInt64, lg_cmp_ge, lg_cmp_le, lg_cmp_gt, lg_cmp_lt, lg_cmp_eq, Bool.false_eq_true, Bool.true_eq_false, reduceCtorEq, false_iff, true_iff, iff_true, iff_false, and_true, true_and, and_false, false_and, reduceIte, ite_true, ite_false, eq_self] at *)) <;> omega) ?_
        refine wa_last ly_105 (by ((try simp only [vp_in_iff, Int32.lt_iff_toInt_lt, Int32.le_iff_toInt_le, ← Int32.toInt_inj, Int32.reduceToInt, n_1, n_2, n_8, Int32.toNatClampNeg, Int64.lt_iff_toInt_lt, Int64.le_iff_toInt_le, ← Int64.toInt_inj, Int64.reduceToInt, Int32.toInt_toInt64, lg_cmp_ge, lg_cmp_le, lg_cmp_gt, lg_cmp_lt, lg_cmp_eq, Bool.false_eq_true, Bool.true_eq_false, reduceCtorEq, false_iff, true_iff, iff_true, iff_false, and_true, true_and, and_false, false_and, reduceIte, ite_true, ite_false, eq_self] at *)) <;> omega) (fun s19 hs19 => ?_)
        have Fs19 : Fm [104, 105] [160, 175] σ s19 := by rw [hs19]; exact Fm.sl Fs4 rfl
        refine wa_iinc (v := (1)) (lv' := fun y20 => [(1, .int y20), (0, .ref 84)]) (by decide) rfl (by decide) (fun _ => rfl) (fun y20 hy20 => ?_)
        have ty20 := i_addT hy20.symm
        clear hy20
        refine wa_goto o_X12_takeNode_25 (by decide) ?_
        refine wa_pick [1, 0] rfl ?_
        exact ih5 _ (by ((try simp only [vp_in_iff, Int32.lt_iff_toInt_lt, Int32.le_iff_toInt_le, ← Int32.toInt_inj, Int32.reduceToInt, n_1, n_2, n_8, Int32.toNatClampNeg, Int64.lt_iff_toInt_lt, Int64.le_iff_toInt_le, ← Int64.toInt_inj, Int64.reduceToInt, Int32.toInt_toInt64, lg_cmp_ge, lg_cmp_le, lg_cmp_gt, lg_cmp_lt, lg_cmp_eq, Bool.false_eq_true, Bool.true_eq_false, reduceCtorEq, false_iff, true_iff, iff_true, iff_false, and_true, true_and, and_false, false_and, reduceIte, ite_true, ite_false, eq_self] at *)) <;> omega) _ _ ⟨Fs19, ((nx_gi_sl hs19).trans (khi6_0)), ((nx_gi_sl hs19).trans (khi6_1)), (by ((try simp only [vp_in_iff, Int32.lt_iff_toInt_lt, Int32.le_iff_toInt_le, ← Int32.toInt_inj, Int32.reduceToInt, n_1, n_2, n_8, Int32.toNatClampNeg, Int64.lt_iff_toInt_lt, Int64.le_iff_toInt_le, ← Int64.toInt_inj, Int64.reduceToInt, Int32.toInt_toInt64, lg_cmp_ge, lg_cmp_le, lg_cmp_gt, lg_cmp_lt, lg_cmp_eq, Bool.false_eq_true, Bool.true_eq_false, reduceCtorEq, false_iff, true_iff, iff_true, iff_false, and_true, true_and, and_false, false_and, reduceIte, ite_true, ite_false, eq_self] at *)) <;> omega), trivial⟩ rfl
  exact hi6 _ _ _ ⟨Fs3, ((nxk_gi_si hs3 (by decide)).trans (nxe_gi_si hs2)), (nxe_gi_si hs3), (by ((try simp only [vp_in_iff, Int32.lt_iff_toInt_lt, Int32.le_iff_toInt_le, ← Int32.toInt_inj, Int32.reduceToInt, n_1, n_2, n_8, Int32.toNatClampNeg, Int64.lt_iff_toInt_lt, Int64.le_iff_toInt_le, ← Int64.toInt_inj, Int64.reduceToInt, Int32.toInt_toInt64, lg_cmp_ge, lg_cmp_le, lg_cmp_gt, lg_cmp_lt, lg_cmp_eq, Bool.false_eq_true, Bool.true_eq_false, reduceCtorEq, false_iff, true_iff, iff_true, iff_false, and_true, true_and, and_false, false_and, reduceIte, ite_true, ite_false, eq_self] at *)) <;> omega), trivial⟩ rfl
set_option maxHeartbeats 4000000 in
theorem sp_X12_floor (G : kG9) {d : Nat} (hd : 0 ≤ d) (σ : St) (a0 : Int64) (a1 : Int64) : Ct G M_X12_floor d [.long a0, .long a1] σ (fun r σ' => ∃ x : Int64, r = some (.long x) ∧ σ = σ' ∧ True) := by
  refine wa_start (by decide) rfl (Nat.le_of_ble_eq_true rfl) (lv := [(0, .long a0), (2, .long a1)]) rfl o_X12_floor_0 rfl ?_
  refine wa_lload_n (i := 0) rfl rfl ?_
  refine wa_lload_n (i := 2) rfl rfl ?_
  refine wa_ldiv (by ((try simp only [vp_in_iff, Int32.lt_iff_toInt_lt, Int32.le_iff_toInt_le, ← Int32.toInt_inj, Int32.reduceToInt, n_1, n_2, n_8, Int32.toNatClampNeg, Int64.lt_iff_toInt_lt, Int64.le_iff_toInt_le, ← Int64.toInt_inj, Int64.reduceToInt, Int32.toInt_toInt64, lg_cmp_ge, lg_cmp_le, lg_cmp_gt, lg_cmp_lt, lg_cmp_eq, Bool.false_eq_true, Bool.true_eq_false, reduceCtorEq, false_iff, true_iff, iff_true, iff_false, and_true, true_and, and_false, false_and, reduceIte, ite_true, ite_false, eq_self] at *)) <;> omega) ?_
  refine wa_topl (fun v1 hv1 => ?_)
  have tv1 := l_divU hv1
  clear hv1
  refine wa_lstoreD (lv' := [(4, .long v1), (0, .long a0), (2, .long a1)]) (by decide) rfl ?_
  refine wa_lload_n (i := 0) rfl rfl ?_
  refine wa_lload_n (i := 2) rfl rfl ?_
  refine wa_lrem (by ((try simp only [vp_in_iff, Int32.lt_iff_toInt_lt, Int32.le_iff_toInt_le, ← Int32.toInt_inj, Int32.reduceToInt, n_1, n_2, n_8, Int32.toNatClampNeg, Int64.lt_iff_toInt_lt, Int64.le_iff_toInt_le, ← Int64.toInt_inj, Int64.reduceToInt, Int32.toInt_toInt64, lg_cmp_ge, lg_cmp_le, lg_cmp_gt, lg_cmp_lt, lg_cmp_eq, Bool.false_eq_true, Bool.true_eq_false, reduceCtorEq, false_iff, true_iff, iff_true, iff_false, and_true, true_and, and_false, false_and, reduceIte, ite_true, ite_false, eq_self] at *)) <;> omega) ?_
  refine wa_topl (fun v2 hv2 => ?_)
  have tv2 := l_remU hv2
  clear hv2
  refine wa_lconst (v := 0) (by decide) ?_
  refine wa_lcmp ?_
  refine wa_top (fun v3 hv3 => ?_)
  have tv3 := i_cmpT hv3
  clear hv3
  refine wa_if_eq o_X12_floor_26 (by decide) (fun h4 => ?_) (fun h4 => ?_)
  · refine wa_lload rfl ?_
    refine wa_lreturn rfl rfl ?_
    exact ⟨_, rfl, rfl, trivial⟩
  · refine wa_lload_n (i := 0) rfl rfl ?_
    refine wa_lconst (v := 0) (by decide) ?_
    refine wa_lcmp ?_
    refine wa_top (fun v5 hv5 => ?_)
    have tv5 := i_cmpT hv5
    clear hv5
    refine wa_if_ge o_X12_floor_26 (by decide) (fun h6 => ?_) (fun h6 => ?_)
    · refine wa_lload rfl ?_
      refine wa_lreturn rfl rfl ?_
      exact ⟨_, rfl, rfl, trivial⟩
    · refine wa_lload rfl ?_
      refine wa_lconst (v := 1) (by decide) ?_
      refine wa_lsub ?_
      refine wa_topl (fun v7 hv7 => ?_)
      have tv7 := s_l_remU hv7
      clear hv7
      refine wa_goto o_X12_floor_28 (by decide) ?_
      refine wa_lreturn rfl rfl ?_
      exact ⟨_, rfl, rfl, trivial⟩
set_option maxHeartbeats 4000000 in
theorem sp_X12_firstBroken (G : kG9) {d : Nat} (hd : 0 ≤ d) (σ : St) (r1 : 0 ≤ (gi σ 84 32).toInt ∧ (gi σ 84 32).toInt ≤ 4) : Ct G M_X12_firstBroken d [.ref 84] σ (fun r σ' => ∃ x : Int32, r = some (.int x) ∧ σ = σ' ∧ True) := by
  refine wa_start (by decide) rfl (Nat.le_of_ble_eq_true rfl) (lv := [(0, .ref 84)]) rfl o_X12_firstBroken_0 rfl ?_
  refine wa_iconst (v := 0) (by decide) ?_
  refine wa_istore_nD (lv' := [(1, .int 0), (0, .ref 84)]) (i := 1) rfl (by decide) rfl ?_
  refine wa_pick [1, 0] rfl ?_
  have hi2 : ∀ (n9_2 : Nat) (l1 : Int32), ((0 ≤ l1.toInt) ∧ (True)) → (2147483647 - l1.toInt).toNat = n9_2 → WA G M_X12_firstBroken (ZM G M_X12_firstBroken d (fun r σ' => ∃ x : Int32, r = some (.int x) ∧ σ = σ' ∧ True)) B_X12_firstBroken_2 [(0, .ref 84), (1, .int l1)] [] σ := by
    intro n9_2
    induction n9_2 using Nat.strongRecOn with
    | _ n9_2 ih1 =>
      intro l1  i9 m9_2
      obtain ⟨jhi2_0, -⟩ := i9
      have ul1 := Int32.toInt_lt l1
      have wl1 := Int32.le_toInt l1
      refine wa_iload_n (i := 1) rfl rfl ?_
      refine wa_aload_n (i := 0) rfl rfl ?_
      refine wa_geti ck_12 fl_12_815 ly_84 ?_
      refine wa_icmp_ge o_X12_firstBroken_34 (by decide) (fun h3 => ?_) (fun h3 => ?_)
      · refine wa_iconst (v := (-1)) (by decide) ?_
        refine wa_ireturn rfl rfl ?_
        exact ⟨_, rfl, rfl, trivial⟩
      · have mh3 := nle_mx h3
        refine wa_aload_n (i := 0) rfl rfl ?_
        refine wa_getr ck_12 fl_12_406 ly_84 rf_84_165 ?_
        refine wa_iload_n (i := 1) rfl rfl ?_
        refine wa_lald ly_101 (by ((try simp only [vp_in_iff, Int32.lt_iff_toInt_lt, Int32.le_iff_toInt_le, ← Int32.toInt_inj, Int32.reduceToInt, n_1, n_2, n_8, Int32.toNatClampNeg, Int64.lt_iff_toInt_lt, Int64.le_iff_toInt_le, ← Int64.toInt_inj, Int64.reduceToInt, Int32.toInt_toInt64, lg_cmp_ge, lg_cmp_le, lg_cmp_gt, lg_cmp_lt, lg_cmp_eq, Bool.false_eq_true, Bool.true_eq_false, reduceCtorEq, false_iff, true_iff, iff_true, iff_false, and_true, true_and, and_false, false_and, reduceIte, ite_true, ite_false, eq_self] at *)) <;> omega) ?_
        refine wa_aload_n (i := 0) rfl rfl ?_
        refine wa_getl ck_12 fl_12_1097 ly_84 ?_
        refine wa_lrem (by ((try simp only [vp_in_iff, Int32.lt_iff_toInt_lt, Int32.le_iff_toInt_le, ← Int32.toInt_inj, Int32.reduceToInt, n_1, n_2, n_8, Int32.toNatClampNeg, Int64.lt_iff_toInt_lt, Int64.le_iff_toInt_le, ← Int64.toInt_inj, Int64.reduceToInt, Int32.toInt_toInt64, lg_cmp_ge, lg_cmp_le, lg_cmp_gt, lg_cmp_lt, lg_cmp_eq, Bool.false_eq_true, Bool.true_eq_false, reduceCtorEq, false_iff, true_iff, iff_true, iff_false, and_true, true_and, and_false, false_and, reduceIte, ite_true, ite_false, eq_self] at *)) <;> omega) ?_
        refine wa_topl (fun v4 hv4 => ?_)
        have tv4 := l_remU hv4
        clear hv4
        refine wa_lconst (v := 0) (by decide) ?_
        refine wa_lcmp ?_
        refine wa_top (fun v5 hv5 => ?_)
        have tv5 := i_cmpT hv5
        clear hv5
        refine wa_if_eq o_X12_firstBroken_28 (by decide) (fun h6 => ?_) (fun h6 => ?_)
        · refine wa_iinc (v := (1)) (lv' := fun y7 => [(1, .int y7), (0, .ref 84)]) (by decide) rfl (by decide) (fun _ => rfl) (fun y7 hy7 => ?_)
          have ty7 := i_addT hy7.symm
          clear hy7
          refine wa_goto o_X12_firstBroken_2 (by decide) ?_
          refine wa_pick [1, 0] rfl ?_
          exact ih1 _ (by ((try simp only [vp_in_iff, Int32.lt_iff_toInt_lt, Int32.le_iff_toInt_le, ← Int32.toInt_inj, Int32.reduceToInt, n_1, n_2, n_8, Int32.toNatClampNeg, Int64.lt_iff_toInt_lt, Int64.le_iff_toInt_le, ← Int64.toInt_inj, Int64.reduceToInt, Int32.toInt_toInt64, lg_cmp_ge, lg_cmp_le, lg_cmp_gt, lg_cmp_lt, lg_cmp_eq, Bool.false_eq_true, Bool.true_eq_false, reduceCtorEq, false_iff, true_iff, iff_true, iff_false, and_true, true_and, and_false, false_and, reduceIte, ite_true, ite_false, eq_self] at *)) <;> omega) _ ⟨(by ((try simp only [vp_in_iff, Int32.lt_iff_toInt_lt, Int32.le_iff_toInt_le, ← Int32.toInt_inj, Int32.reduceToInt, n_1, n_2, n_8, Int32.toNatClampNeg, Int64.lt_iff_toInt_lt, Int64.le_iff_toInt_le, ← Int64.toInt_inj, Int64.reduceToInt, Int32.toInt_toInt64, lg_cmp_ge, lg_cmp_le, lg_cmp_gt, lg_cmp_lt, lg_cmp_eq, Bool.false_eq_true, Bool.true_eq_false, reduceCtorEq, false_iff, true_iff, iff_true, iff_false, and_true, true_and, and_false, false_and, reduceIte, ite_true, ite_false, eq_self] at *)) <;> omega), trivial⟩ rfl
        · refine wa_iload_n (i := 1) rfl rfl ?_
          refine wa_ireturn rfl rfl ?_
          exact ⟨_, rfl, rfl, trivial⟩
  exact hi2 _ _ ⟨(by ((try simp only [vp_in_iff, Int32.lt_iff_toInt_lt, Int32.le_iff_toInt_le, ← Int32.toInt_inj, Int32.reduceToInt, n_1, n_2, n_8, Int32.toNatClampNeg, Int64.lt_iff_toInt_lt, Int64.le_iff_toInt_le, ← Int64.toInt_inj, Int64.reduceToInt, Int32.toInt_toInt64, lg_cmp_ge, lg_cmp_le, lg_cmp_gt, lg_cmp_lt, lg_cmp_eq, Bool.false_eq_true, Bool.true_eq_false, reduceCtorEq, false_iff, true_iff, iff_true, iff_false, and_true, true_and, and_false, false_and, reduceIte, ite_true, ite_false, eq_self] at *)) <;> omega), trivial⟩ rfl
set_option maxHeartbeats 4000000 in
theorem sp_X12_isTight (G : kG9) {d : Nat} (hd : 2 ≤ d) (σ : St) (a0 : Int32) (r1 : 0 ≤ (gi σ 84 32).toInt ∧ (gi σ 84 32).toInt ≤ 4) : Ct G M_X12_isTight d [.ref 84, .int a0] σ (fun r σ' => ∃ x : Bool, r = some (.int (bI x)) ∧ σ = σ' ∧ True) := by
  refine wa_start (by decide) rfl (Nat.le_of_ble_eq_true rfl) (lv := [(0, .ref 84), (1, .int a0)]) rfl o_X12_isTight_0 rfl ?_
  have ua0 := Int32.toInt_lt a0
  have wa0 := Int32.le_toInt a0
  refine wa_aload_n (i := 0) rfl rfl ?_
  refine wa_iload_n (i := 1) rfl rfl ?_
  refine wa_iconst (v := 0) (by decide) ?_
  refine wa_aload_n (i := 0) rfl rfl ?_
  refine wa_getr ck_12 fl_12_397 ly_84 rf_84_159 ?_
  refine wa_iload_n (i := 1) rfl rfl ?_
  refine wa_lald ly_104 (by ((try simp only [vp_in_iff, Int32.lt_iff_toInt_lt, Int32.le_iff_toInt_le, ← Int32.toInt_inj, Int32.reduceToInt, n_1, n_2, n_8, Int32.toNatClampNeg, Int64.lt_iff_toInt_lt, Int64.le_iff_toInt_le, ← Int64.toInt_inj, Int64.reduceToInt, Int32.toInt_toInt64, lg_cmp_ge, lg_cmp_le, lg_cmp_gt, lg_cmp_lt, lg_cmp_eq, Bool.false_eq_true, Bool.true_eq_false, reduceCtorEq, false_iff, true_iff, iff_true, iff_false, and_true, true_and, and_false, false_and, reduceIte, ite_true, ite_false, eq_self] at *)) <;> omega) ?_
  refine wa_Vi (d9 := d - 1) [.int _, .int (bI false), .long _] [] (sp_X12_compareRow G (d := d - 1) (by omega) σ _ false _ (by first | assumption | exact Or.inl rfl | exact Or.inr rfl | (((try simp only [vp_in_iff, Int32.lt_iff_toInt_lt, Int32.le_iff_toInt_le, ← Int32.toInt_inj, Int32.reduceToInt, n_1, n_2, n_8, Int32.toNatClampNeg, Int64.lt_iff_toInt_lt, Int64.le_iff_toInt_le, ← Int64.toInt_inj, Int64.reduceToInt, Int32.toInt_toInt64, lg_cmp_ge, lg_cmp_le, lg_cmp_gt, lg_cmp_lt, lg_cmp_eq, Bool.false_eq_true, Bool.true_eq_false, reduceCtorEq, false_iff, true_iff, iff_true, iff_false, and_true, true_and, and_false, false_and, reduceIte, ite_true, ite_false, eq_self] at *)) <;> omega))) (rfl) rfl rfl (zr (by omega)) mk_X12_compareRow ly_84 ml_12_1112 (Nat.le_of_ble_eq_true rfl) (fun x2 s1 hs1 => ?_)
  obtain ⟨zs1, -⟩ := pI hs1
  subst zs1
  refine wa_if_ne o_X12_isTight_19 (by decide) (fun h3 => ?_) (fun h3 => ?_)
  · refine wa_iconst (v := 0) (by decide) ?_
    refine wa_zreturn false (rfl) rfl rfl ?_
    exact ⟨_, rfl, rfl, trivial⟩
  · refine wa_iconst (v := 1) (by decide) ?_
    refine wa_goto o_X12_isTight_20 (by decide) ?_
    refine wa_zreturn true (rfl) rfl rfl ?_
    exact ⟨_, rfl, rfl, trivial⟩
set_option maxHeartbeats 4000000 in
theorem sp_X12_isSmall (G : kG9) {d : Nat} (hd : 0 ≤ d) (σ : St) (a0 : Int64) : Ct G M_X12_isSmall d [.long a0] σ (fun r σ' => ∃ x : Bool, r = some (.int (bI x)) ∧ σ = σ' ∧ True) := by
  refine wa_start (by decide) rfl (Nat.le_of_ble_eq_true rfl) (lv := [(0, .long a0)]) rfl o_X12_isSmall_0 rfl ?_
  refine wa_lload_n (i := 0) rfl rfl ?_
  refine wa_ldc2 (v := (-100000000)) (allW_in (kT_15 _ (List.mem_of_getElem? (i := 149) rfl)) rfl) ?_
  refine wa_lcmp ?_
  refine wa_top (fun v1 hv1 => ?_)
  have tv1 := i_cmpT hv1
  clear hv1
  refine wa_if_lt o_X12_isSmall_20 (by decide) (fun h2 => ?_) (fun h2 => ?_)
  · refine wa_iconst (v := 0) (by decide) ?_
    refine wa_zreturn false (rfl) rfl rfl ?_
    exact ⟨_, rfl, rfl, trivial⟩
  · refine wa_lload_n (i := 0) rfl rfl ?_
    refine wa_ldc2 (v := (100000000)) (allW_in (kT_15 _ (List.mem_of_getElem? (i := 150) rfl)) rfl) ?_
    refine wa_lcmp ?_
    refine wa_top (fun v3 hv3 => ?_)
    have tv3 := i_cmpT hv3
    clear hv3
    refine wa_if_gt o_X12_isSmall_20 (by decide) (fun h4 => ?_) (fun h4 => ?_)
    · refine wa_iconst (v := 0) (by decide) ?_
      refine wa_zreturn false (rfl) rfl rfl ?_
      exact ⟨_, rfl, rfl, trivial⟩
    · refine wa_iconst (v := 1) (by decide) ?_
      refine wa_goto o_X12_isSmall_21 (by decide) ?_
      refine wa_zreturn true (rfl) rfl rfl ?_
      exact ⟨_, rfl, rfl, trivial⟩
set_option maxHeartbeats 4000000 in
theorem sp_X12_best (G : kG9) {d : Nat} (hd : 1 ≤ d) (σ : St) (a0 : Int32) : Ct G M_X12_best d [.ref 84, .int a0] σ (fun r σ' => ∃ x : Int64, r = some (.long x) ∧ Fm [] [0] σ σ' ∧ True) := by
  refine wa_start (by decide) rfl (Nat.le_of_ble_eq_true rfl) (lv := [(0, .ref 84), (1, .int a0)]) rfl o_X12_best_0 rfl ?_
  have ua0 := Int32.toInt_lt a0
  have wa0 := Int32.le_toInt a0
  refine wa_aload_n (i := 0) rfl rfl ?_
  refine wa_aload_n (i := 0) rfl rfl ?_
  refine wa_getz ck_12 fl_12_1214 ly_84 ?_
  refine wa_if_eq o_X12_best_24 (by decide) (fun h1 => ?_) (fun h1 => ?_)
  · replace h1 := bI_f (b := (gb σ 84 176)) (rfl) h1
    refine wa_iconst (v := 1) (by decide) ?_
    refine wa_puti ck_12 fl_12_3 ly_84 (fun s2 hs2 => ?_)
    have Fs2 : Fm [] [0] σ s2 := by rw [hs2]; exact Fm.si (Fm.rf [] [0] σ) rfl
    refine wa_aload_n (i := 0) rfl rfl ?_
    refine wa_geti ck_12 fl_12_3 ly_84 ?_
    refine wa_rw (nxe_gi_si hs2) ?_
    refine wa_if_le o_X12_best_37 (by decide) (fun h3 => ?_) (fun h3 => ?_)
    · refine wa_iload_n (i := 1) rfl rfl ?_
      refine wa_iconst (v := 1) (by decide) ?_
      refine wa_icmp_ne o_X12_best_48 (by decide) (fun h4 => ?_) (fun h4 => ?_)
      · refine wa_iload_n (i := 1) rfl rfl ?_
        refine wa_iconst (v := 2) (by decide) ?_
        refine wa_icmp_ne o_X12_best_59 (by decide) (fun h5 => ?_) (fun h5 => ?_)
        · refine wa_aload_n (i := 0) rfl rfl ?_
          refine wa_getz ck_12 fl_12_1193 ly_84 ?_
          refine wa_rw (congrArg bI (nx_gb_si hs2)) ?_
          refine wa_if_ne o_X12_best_70 (by decide) (fun h6 => ?_) (fun h6 => ?_)
          · replace h6 := bI_t (b := (gb σ 84 177)) (rfl) h6
            refine wa_iload_n (i := 1) rfl rfl ?_
            refine wa_if_ne o_X12_best_81 (by decide) (fun h7 => ?_) (fun h7 => ?_)
            · refine wa_aload_n (i := 0) rfl rfl ?_
              refine wa_getr ck_12 fl_12_426 ly_84 rf_84_181 ?_
              refine wa_iload_n (i := 1) rfl rfl ?_
              refine wa_iconst (v := 3) (by decide) ?_
              refine wa_isub ?_
              refine wa_top (fun v8 hv8 => ?_)
              have tv8 := i_subT hv8
              clear hv8
              refine wa_lald ly_95 (by ((try simp only [vp_in_iff, Int32.lt_iff_toInt_lt, Int32.le_iff_toInt_le, ← Int32.toInt_inj, Int32.reduceToInt, n_1, n_2, n_8, Int32.toNatClampNeg, Int64.lt_iff_toInt_lt, Int64.le_iff_toInt_le, ← Int64.toInt_inj, Int64.reduceToInt, Int32.toInt_toInt64, lg_cmp_ge, lg_cmp_le, lg_cmp_gt, lg_cmp_lt, lg_cmp_eq, Bool.false_eq_true, Bool.true_eq_false, reduceCtorEq, false_iff, true_iff, iff_true, iff_false, and_true, true_and, and_false, false_and, reduceIte, ite_true, ite_false, eq_self] at *)) <;> omega) ?_
              refine wa_lreturn rfl rfl ?_
              exact ⟨_, rfl, Fs2, trivial⟩
            · refine wa_aload_n (i := 0) rfl rfl ?_
              refine wa_getl ck_12 fl_12_1196 ly_84 ?_
              refine wa_rwl (nx_gl_si hs2) ?_
              refine wa_goto o_X12_best_89 (by decide) ?_
              refine wa_lreturn rfl rfl ?_
              exact ⟨_, rfl, Fs2, trivial⟩
          · replace h6 := bI_f (b := (gb σ 84 177)) (rfl) h6
            refine wa_lconst (v := 0) (by decide) ?_
            refine wa_goto o_X12_best_89 (by decide) ?_
            refine wa_lreturn rfl rfl ?_
            exact ⟨_, rfl, Fs2, trivial⟩
        · refine wa_aload_n (i := 0) rfl rfl ?_
          refine wa_geti ck_12 fl_12_1205 ly_84 ?_
          refine wa_rw (nxk_gi_si hs2 (by decide)) ?_
          refine wa_i2l ?_
          refine wa_lreturn rfl rfl ?_
          exact ⟨_, rfl, Fs2, trivial⟩
      · refine wa_aload_n (i := 0) rfl rfl ?_
        refine wa_geti ck_12 fl_12_1217 ly_84 ?_
        refine wa_rw (nxk_gi_si hs2 (by decide)) ?_
        refine wa_i2l ?_
        refine wa_lreturn rfl rfl ?_
        exact ⟨_, rfl, Fs2, trivial⟩
    · refine wa_lconst (v := 0) (by decide) ?_
      refine wa_lreturn rfl rfl ?_
      exact ⟨_, rfl, Fs2, trivial⟩
  · replace h1 := bI_t (b := (gb σ 84 176)) (rfl) h1
    refine wa_iload_n (i := 1) rfl rfl ?_
    refine wa_i2l ?_
    refine wa_lconst (v := 0) (by decide) ?_
    refine wa_ldc2 (v := (6)) (allW_in (kT_15 _ (List.mem_of_getElem? (i := 159) rfl)) rfl) ?_
    refine wa_Si (d9 := d - 1) [.long _, .long _, .long _] [.ref 84] (sp_X12_in G (d := d - 1) (by omega) σ _ _ _) (rfl) rfl rfl (zr (by omega)) mk_X12_in ml_12_504 (Nat.le_of_ble_eq_true rfl) (fun x10 s9 hs9 => ?_)
    obtain ⟨bx10, ex10, zs9, cx10_1, -⟩ := pB hs9
    subst ex10
    subst zs9
    refine wa_if_eq o_X12_best_24 (by decide) (fun h11 => ?_) (fun h11 => ?_)
    · replace h11 := bI_f (b := bx10) (rfl) h11
      have uh11_0 := iff_f cx10_1 h11
      refine wa_iconst (v := 1) (by decide) ?_
      refine wa_puti ck_12 fl_12_3 ly_84 (fun s12 hs12 => ?_)
      have Fs12 : Fm [] [0] σ s12 := by rw [hs12]; exact Fm.si (Fm.rf [] [0] σ) rfl
      refine wa_aload_n (i := 0) rfl rfl ?_
      refine wa_geti ck_12 fl_12_3 ly_84 ?_
      refine wa_rw (nxe_gi_si hs12) ?_
      refine wa_if_le o_X12_best_37 (by decide) (fun h13 => ?_) (fun h13 => ?_)
      · refine wa_iload_n (i := 1) rfl rfl ?_
        refine wa_iconst (v := 1) (by decide) ?_
        refine wa_icmp_ne o_X12_best_48 (by decide) (fun h14 => ?_) (fun h14 => ?_)
        · refine wa_iload_n (i := 1) rfl rfl ?_
          refine wa_iconst (v := 2) (by decide) ?_
          refine wa_icmp_ne o_X12_best_59 (by decide) (fun h15 => ?_) (fun h15 => ?_)
          · refine wa_aload_n (i := 0) rfl rfl ?_
            refine wa_getz ck_12 fl_12_1193 ly_84 ?_
            refine wa_rw (congrArg bI (nx_gb_si hs12)) ?_
            refine wa_if_ne o_X12_best_70 (by decide) (fun h16 => ?_) (fun h16 => ?_)
            · replace h16 := bI_t (b := (gb σ 84 177)) (rfl) h16
              refine wa_iload_n (i := 1) rfl rfl ?_
              refine wa_if_ne o_X12_best_81 (by decide) (fun h17 => ?_) (fun h17 => ?_)
              · refine wa_aload_n (i := 0) rfl rfl ?_
                refine wa_getr ck_12 fl_12_426 ly_84 rf_84_181 ?_
                refine wa_iload_n (i := 1) rfl rfl ?_
                refine wa_iconst (v := 3) (by decide) ?_
                refine wa_isub ?_
                refine wa_top (fun v18 hv18 => ?_)
                have tv18 := i_subT hv18
                clear hv18
                refine wa_lald ly_95 (by ((try simp only [vp_in_iff, Int32.lt_iff_toInt_lt, Int32.le_iff_toInt_le, ← Int32.toInt_inj, Int32.reduceToInt, n_1, n_2, n_8, Int32.toNatClampNeg, Int64.lt_iff_toInt_lt, Int64.le_iff_toInt_le, ← Int64.toInt_inj, Int64.reduceToInt, Int32.toInt_toInt64, lg_cmp_ge, lg_cmp_le, lg_cmp_gt, lg_cmp_lt, lg_cmp_eq, Bool.false_eq_true, Bool.true_eq_false, reduceCtorEq, false_iff, true_iff, iff_true, iff_false, and_true, true_and, and_false, false_and, reduceIte, ite_true, ite_false, eq_self] at *)) <;> omega) ?_
                refine wa_lreturn rfl rfl ?_
                exact ⟨_, rfl, Fs12, trivial⟩
              · refine wa_aload_n (i := 0) rfl rfl ?_
                refine wa_getl ck_12 fl_12_1196 ly_84 ?_
                refine wa_rwl (nx_gl_si hs12) ?_
                refine wa_goto o_X12_best_89 (by decide) ?_
                refine wa_lreturn rfl rfl ?_
                exact ⟨_, rfl, Fs12, trivial⟩
            · replace h16 := bI_f (b := (gb σ 84 177)) (rfl) h16
              refine wa_lconst (v := 0) (by decide) ?_
              refine wa_goto o_X12_best_89 (by decide) ?_
              refine wa_lreturn rfl rfl ?_
              exact ⟨_, rfl, Fs12, trivial⟩
          · refine wa_aload_n (i := 0) rfl rfl ?_
            refine wa_geti ck_12 fl_12_1205 ly_84 ?_
            refine wa_rw (nxk_gi_si hs12 (by decide)) ?_
            refine wa_i2l ?_
            refine wa_lreturn rfl rfl ?_
            exact ⟨_, rfl, Fs12, trivial⟩
        · refine wa_aload_n (i := 0) rfl rfl ?_
          refine wa_geti ck_12 fl_12_1217 ly_84 ?_
          refine wa_rw (nxk_gi_si hs12 (by decide)) ?_
          refine wa_i2l ?_
          refine wa_lreturn rfl rfl ?_
          exact ⟨_, rfl, Fs12, trivial⟩
      · refine wa_lconst (v := 0) (by decide) ?_
        refine wa_lreturn rfl rfl ?_
        exact ⟨_, rfl, Fs12, trivial⟩
    · replace h11 := bI_t (b := bx10) (rfl) h11
      have uh11_0 := iff_t cx10_1 h11
      refine wa_iconst (v := 0) (by decide) ?_
      refine wa_goto o_X12_best_25 (by decide) ?_
      refine wa_puti ck_12 fl_12_3 ly_84 (fun s19 hs19 => ?_)
      have Fs19 : Fm [] [0] σ s19 := by rw [hs19]; exact Fm.si (Fm.rf [] [0] σ) rfl
      refine wa_aload_n (i := 0) rfl rfl ?_
      refine wa_geti ck_12 fl_12_3 ly_84 ?_
      refine wa_rw (nxe_gi_si hs19) ?_
      refine wa_if_le o_X12_best_37 (by decide) (fun h20 => ?_) (fun h20 => ?_)
      · refine wa_iload_n (i := 1) rfl rfl ?_
        refine wa_iconst (v := 1) (by decide) ?_
        refine wa_icmp_ne o_X12_best_48 (by decide) (fun h21 => ?_) (fun h21 => ?_)
        · refine wa_iload_n (i := 1) rfl rfl ?_
          refine wa_iconst (v := 2) (by decide) ?_
          refine wa_icmp_ne o_X12_best_59 (by decide) (fun h22 => ?_) (fun h22 => ?_)
          · refine wa_aload_n (i := 0) rfl rfl ?_
            refine wa_getz ck_12 fl_12_1193 ly_84 ?_
            refine wa_rw (congrArg bI (nx_gb_si hs19)) ?_
            refine wa_if_ne o_X12_best_70 (by decide) (fun h23 => ?_) (fun h23 => ?_)
            · replace h23 := bI_t (b := (gb σ 84 177)) (rfl) h23
              refine wa_iload_n (i := 1) rfl rfl ?_
              refine wa_if_ne o_X12_best_81 (by decide) (fun h24 => ?_) (fun h24 => ?_)
              · refine wa_aload_n (i := 0) rfl rfl ?_
                refine wa_getr ck_12 fl_12_426 ly_84 rf_84_181 ?_
                refine wa_iload_n (i := 1) rfl rfl ?_
                refine wa_iconst (v := 3) (by decide) ?_
                refine wa_isub ?_
                refine wa_top (fun v25 hv25 => ?_)
                have tv25 := i_subT hv25
                clear hv25
                refine wa_lald ly_95 (by ((try simp only [vp_in_iff, Int32.lt_iff_toInt_lt, Int32.le_iff_toInt_le, ← Int32.toInt_inj, Int32.reduceToInt, n_1, n_2, n_8, Int32.toNatClampNeg, Int64.lt_iff_toInt_lt, Int64.le_iff_toInt_le, ← Int64.toInt_inj, Int64.reduceToInt, Int32.toInt_toInt64, lg_cmp_ge, lg_cmp_le, lg_cmp_gt, lg_cmp_lt, lg_cmp_eq, Bool.false_eq_true, Bool.true_eq_false, reduceCtorEq, false_iff, true_iff, iff_true, iff_false, and_true, true_and, and_false, false_and, reduceIte, ite_true, ite_false, eq_self] at *)) <;> omega) ?_
                refine wa_lreturn rfl rfl ?_
                exact ⟨_, rfl, Fs19, trivial⟩
              · refine wa_aload_n (i := 0) rfl rfl ?_
                refine wa_getl ck_12 fl_12_1196 ly_84 ?_
                refine wa_rwl (nx_gl_si hs19) ?_
                refine wa_goto o_X12_best_89 (by decide) ?_
                refine wa_lreturn rfl rfl ?_
                exact ⟨_, rfl, Fs19, trivial⟩
            · replace h23 := bI_f (b := (gb σ 84 177)) (rfl) h23
              refine wa_lconst (v := 0) (by decide) ?_
              refine wa_goto o_X12_best_89 (by decide) ?_
              refine wa_lreturn rfl rfl ?_
              exact ⟨_, rfl, Fs19, trivial⟩
          · refine wa_aload_n (i := 0) rfl rfl ?_
            refine wa_geti ck_12 fl_12_1205 ly_84 ?_
            refine wa_rw (nxk_gi_si hs19 (by decide)) ?_
            refine wa_i2l ?_
            refine wa_lreturn rfl rfl ?_
            exact ⟨_, rfl, Fs19, trivial⟩
        · refine wa_aload_n (i := 0) rfl rfl ?_
          refine wa_geti ck_12 fl_12_1217 ly_84 ?_
          refine wa_rw (nxk_gi_si hs19 (by decide)) ?_
          refine wa_i2l ?_
          refine wa_lreturn rfl rfl ?_
          exact ⟨_, rfl, Fs19, trivial⟩
      · refine wa_lconst (v := 0) (by decide) ?_
        refine wa_lreturn rfl rfl ?_
        exact ⟨_, rfl, Fs19, trivial⟩
set_option maxHeartbeats 4000000 in
theorem sp_X12_line (G : kG9) {d : Nat} (hd : 1 ≤ d) (σ : St) (a0 : Int32) (a1 : Int32) : Ct G M_X12_line d [.ref 84, .int a0, .int a1] σ (fun r σ' => ∃ x : Int64, r = some (.long x) ∧ Fm [] [0] σ σ' ∧ True) := by
  refine wa_start (by decide) rfl (Nat.le_of_ble_eq_true rfl) (lv := [(0, .ref 84), (1, .int a0), (2, .int a1)]) rfl o_X12_line_0 rfl ?_
  have ua0 := Int32.toInt_lt a0
  have wa0 := Int32.le_toInt a0
  have ua1 := Int32.toInt_lt a1
  have wa1 := Int32.le_toInt a1
  refine wa_aload_n (i := 0) rfl rfl ?_
  refine wa_iload_n (i := 1) rfl rfl ?_
  refine wa_i2l ?_
  refine wa_lconst (v := 1) (by decide) ?_
  refine wa_aload_n (i := 0) rfl rfl ?_
  refine wa_geti ck_12 fl_12_1247 ly_84 ?_
  refine wa_i2l ?_
  refine wa_Si (d9 := d - 1) [.long _, .long _, .long _] [.ref 84] (sp_X12_in G (d := d - 1) (by omega) σ _ _ _) (rfl) rfl rfl (zr (by omega)) mk_X12_in ml_12_504 (Nat.le_of_ble_eq_true rfl) (fun x2 s1 hs1 => ?_)
  obtain ⟨bx2, ex2, zs1, cx2_1, -⟩ := pB hs1
  subst ex2
  subst zs1
  refine wa_if_eq o_X12_line_31 (by decide) (fun h3 => ?_) (fun h3 => ?_)
  · replace h3 := bI_f (b := bx2) (rfl) h3
    have uh3_0 := iff_f cx2_1 h3
    refine wa_iconst (v := 1) (by decide) ?_
    refine wa_puti ck_12 fl_12_3 ly_84 (fun s4 hs4 => ?_)
    have Fs4 : Fm [] [0] σ s4 := by rw [hs4]; exact Fm.si (Fm.rf [] [0] σ) rfl
    refine wa_aload_n (i := 0) rfl rfl ?_
    refine wa_geti ck_12 fl_12_3 ly_84 ?_
    refine wa_rw (nxe_gi_si hs4) ?_
    refine wa_if_le o_X12_line_46 (by decide) (fun h5 => ?_) (fun h5 => ?_)
    · refine wa_iload_n (i := 2) rfl rfl ?_
      refine wa_iconst (v := 4) (by decide) ?_
      refine wa_icmp_ne o_X12_line_60 (by decide) (fun h6 => ?_) (fun h6 => ?_)
      · refine wa_aload_n (i := 0) rfl rfl ?_
        refine wa_getr ck_12 fl_12_435 ly_84 rf_84_184 ?_
        refine wa_iconst (v := 4) (by decide) ?_
        refine wa_iload_n (i := 1) rfl rfl ?_
        refine wa_imul ?_
        refine wa_top (fun v7 hv7 => ?_)
        have tv7 := i_mulT hv7
        clear hv7
        refine wa_iload_n (i := 2) rfl rfl ?_
        refine wa_iadd ?_
        refine wa_top (fun v8 hv8 => ?_)
        have tv8 := i_addT hv8
        clear hv8
        refine wa_lald ly_92 (by ((try simp only [vp_in_iff, Int32.lt_iff_toInt_lt, Int32.le_iff_toInt_le, ← Int32.toInt_inj, Int32.reduceToInt, n_1, n_2, n_8, Int32.toNatClampNeg, Int64.lt_iff_toInt_lt, Int64.le_iff_toInt_le, ← Int64.toInt_inj, Int64.reduceToInt, Int32.toInt_toInt64, lg_cmp_ge, lg_cmp_le, lg_cmp_gt, lg_cmp_lt, lg_cmp_eq, Bool.false_eq_true, Bool.true_eq_false, reduceCtorEq, false_iff, true_iff, iff_true, iff_false, and_true, true_and, and_false, false_and, reduceIte, ite_true, ite_false, eq_self] at *)) <;> omega) ?_
        refine wa_lreturn rfl rfl ?_
        exact ⟨_, rfl, Fs4, trivial⟩
      · refine wa_aload_n (i := 0) rfl rfl ?_
        refine wa_getr ck_12 fl_12_438 ly_84 rf_84_185 ?_
        refine wa_iload_n (i := 1) rfl rfl ?_
        refine wa_lald ly_91 (by ((try simp only [vp_in_iff, Int32.lt_iff_toInt_lt, Int32.le_iff_toInt_le, ← Int32.toInt_inj, Int32.reduceToInt, n_1, n_2, n_8, Int32.toNatClampNeg, Int64.lt_iff_toInt_lt, Int64.le_iff_toInt_le, ← Int64.toInt_inj, Int64.reduceToInt, Int32.toInt_toInt64, lg_cmp_ge, lg_cmp_le, lg_cmp_gt, lg_cmp_lt, lg_cmp_eq, Bool.false_eq_true, Bool.true_eq_false, reduceCtorEq, false_iff, true_iff, iff_true, iff_false, and_true, true_and, and_false, false_and, reduceIte, ite_true, ite_false, eq_self] at *)) <;> omega) ?_
        refine wa_goto o_X12_line_70 (by decide) ?_
        refine wa_lreturn rfl rfl ?_
        exact ⟨_, rfl, Fs4, trivial⟩
    · refine wa_lconst (v := 0) (by decide) ?_
      refine wa_goto o_X12_line_70 (by decide) ?_
      refine wa_lreturn rfl rfl ?_
      exact ⟨_, rfl, Fs4, trivial⟩
  · replace h3 := bI_t (b := bx2) (rfl) h3
    have uh3_0 := iff_t cx2_1 h3
    refine wa_iload_n (i := 2) rfl rfl ?_
    refine wa_i2l ?_
    refine wa_lconst (v := 0) (by decide) ?_
    refine wa_ldc2 (v := (4)) (allW_in (kT_12 _ (List.mem_of_getElem? (i := 125) rfl)) rfl) ?_
    refine wa_Si (d9 := d - 1) [.long _, .long _, .long _] [.ref 84] (sp_X12_in G (d := d - 1) (by omega) σ _ _ _) (rfl) rfl rfl (zr (by omega)) mk_X12_in ml_12_504 (Nat.le_of_ble_eq_true rfl) (fun x10 s9 hs9 => ?_)
    obtain ⟨bx10, ex10, zs9, cx10_1, -⟩ := pB hs9
    subst ex10
    subst zs9
    refine wa_if_eq o_X12_line_31 (by decide) (fun h11 => ?_) (fun h11 => ?_)
    · replace h11 := bI_f (b := bx10) (rfl) h11
      have uh11_0 := iff_f cx10_1 h11
      refine wa_iconst (v := 1) (by decide) ?_
      refine wa_puti ck_12 fl_12_3 ly_84 (fun s12 hs12 => ?_)
      have Fs12 : Fm [] [0] σ s12 := by rw [hs12]; exact Fm.si (Fm.rf [] [0] σ) rfl
      refine wa_aload_n (i := 0) rfl rfl ?_
      refine wa_geti ck_12 fl_12_3 ly_84 ?_
      refine wa_rw (nxe_gi_si hs12) ?_
      refine wa_if_le o_X12_line_46 (by decide) (fun h13 => ?_) (fun h13 => ?_)
      · refine wa_iload_n (i := 2) rfl rfl ?_
        refine wa_iconst (v := 4) (by decide) ?_
        refine wa_icmp_ne o_X12_line_60 (by decide) (fun h14 => ?_) (fun h14 => ?_)
        · refine wa_aload_n (i := 0) rfl rfl ?_
          refine wa_getr ck_12 fl_12_435 ly_84 rf_84_184 ?_
          refine wa_iconst (v := 4) (by decide) ?_
          refine wa_iload_n (i := 1) rfl rfl ?_
          refine wa_imul ?_
          refine wa_top (fun v15 hv15 => ?_)
          have tv15 := i_mulT hv15
          clear hv15
          refine wa_iload_n (i := 2) rfl rfl ?_
          refine wa_iadd ?_
          refine wa_top (fun v16 hv16 => ?_)
          have tv16 := i_addT hv16
          clear hv16
          refine wa_lald ly_92 (by ((try simp only [vp_in_iff, Int32.lt_iff_toInt_lt, Int32.le_iff_toInt_le, ← Int32.toInt_inj, Int32.reduceToInt, n_1, n_2, n_8, Int32.toNatClampNeg, Int64.lt_iff_toInt_lt, Int64.le_iff_toInt_le, ← Int64.toInt_inj, Int64.reduceToInt, Int32.toInt_toInt64, lg_cmp_ge, lg_cmp_le, lg_cmp_gt, lg_cmp_lt, lg_cmp_eq, Bool.false_eq_true, Bool.true_eq_false, reduceCtorEq, false_iff, true_iff, iff_true, iff_false, and_true, true_and, and_false, false_and, reduceIte, ite_true, ite_false, eq_self] at *)) <;> omega) ?_
          refine wa_lreturn rfl rfl ?_
          exact ⟨_, rfl, Fs12, trivial⟩
        · refine wa_aload_n (i := 0) rfl rfl ?_
          refine wa_getr ck_12 fl_12_438 ly_84 rf_84_185 ?_
          refine wa_iload_n (i := 1) rfl rfl ?_
          refine wa_lald ly_91 (by ((try simp only [vp_in_iff, Int32.lt_iff_toInt_lt, Int32.le_iff_toInt_le, ← Int32.toInt_inj, Int32.reduceToInt, n_1, n_2, n_8, Int32.toNatClampNeg, Int64.lt_iff_toInt_lt, Int64.le_iff_toInt_le, ← Int64.toInt_inj, Int64.reduceToInt, Int32.toInt_toInt64, lg_cmp_ge, lg_cmp_le, lg_cmp_gt, lg_cmp_lt, lg_cmp_eq, Bool.false_eq_true, Bool.true_eq_false, reduceCtorEq, false_iff, true_iff, iff_true, iff_false, and_true, true_and, and_false, false_and, reduceIte, ite_true, ite_false, eq_self] at *)) <;> omega) ?_
          refine wa_goto o_X12_line_70 (by decide) ?_
          refine wa_lreturn rfl rfl ?_
          exact ⟨_, rfl, Fs12, trivial⟩
      · refine wa_lconst (v := 0) (by decide) ?_
        refine wa_goto o_X12_line_70 (by decide) ?_
        refine wa_lreturn rfl rfl ?_
        exact ⟨_, rfl, Fs12, trivial⟩
    · replace h11 := bI_t (b := bx10) (rfl) h11
      have uh11_0 := iff_t cx10_1 h11
      refine wa_iconst (v := 0) (by decide) ?_
      refine wa_goto o_X12_line_32 (by decide) ?_
      refine wa_puti ck_12 fl_12_3 ly_84 (fun s17 hs17 => ?_)
      have Fs17 : Fm [] [0] σ s17 := by rw [hs17]; exact Fm.si (Fm.rf [] [0] σ) rfl
      refine wa_aload_n (i := 0) rfl rfl ?_
      refine wa_geti ck_12 fl_12_3 ly_84 ?_
      refine wa_rw (nxe_gi_si hs17) ?_
      refine wa_if_le o_X12_line_46 (by decide) (fun h18 => ?_) (fun h18 => ?_)
      · refine wa_iload_n (i := 2) rfl rfl ?_
        refine wa_iconst (v := 4) (by decide) ?_
        refine wa_icmp_ne o_X12_line_60 (by decide) (fun h19 => ?_) (fun h19 => ?_)
        · refine wa_aload_n (i := 0) rfl rfl ?_
          refine wa_getr ck_12 fl_12_435 ly_84 rf_84_184 ?_
          refine wa_iconst (v := 4) (by decide) ?_
          refine wa_iload_n (i := 1) rfl rfl ?_
          refine wa_imul ?_
          refine wa_top (fun v20 hv20 => ?_)
          have tv20 := i_mulT hv20
          clear hv20
          refine wa_iload_n (i := 2) rfl rfl ?_
          refine wa_iadd ?_
          refine wa_top (fun v21 hv21 => ?_)
          have tv21 := i_addT hv21
          clear hv21
          refine wa_lald ly_92 (by ((try simp only [vp_in_iff, Int32.lt_iff_toInt_lt, Int32.le_iff_toInt_le, ← Int32.toInt_inj, Int32.reduceToInt, n_1, n_2, n_8, Int32.toNatClampNeg, Int64.lt_iff_toInt_lt, Int64.le_iff_toInt_le, ← Int64.toInt_inj, Int64.reduceToInt, Int32.toInt_toInt64, lg_cmp_ge, lg_cmp_le, lg_cmp_gt, lg_cmp_lt, lg_cmp_eq, Bool.false_eq_true, Bool.true_eq_false, reduceCtorEq, false_iff, true_iff, iff_true, iff_false, and_true, true_and, and_false, false_and, reduceIte, ite_true, ite_false, eq_self] at *)) <;> omega) ?_
          refine wa_lreturn rfl rfl ?_
          exact ⟨_, rfl, Fs17, trivial⟩
        · refine wa_aload_n (i := 0) rfl rfl ?_
          refine wa_getr ck_12 fl_12_438 ly_84 rf_84_185 ?_
          refine wa_iload_n (i := 1) rfl rfl ?_
          refine wa_lald ly_91 (by ((try simp only [vp_in_iff, Int32.lt_iff_toInt_lt, Int32.le_iff_toInt_le, ← Int32.toInt_inj, Int32.reduceToInt, n_1, n_2, n_8, Int32.toNatClampNeg, Int64.lt_iff_toInt_lt, Int64.le_iff_toInt_le, ← Int64.toInt_inj, Int64.reduceToInt, Int32.toInt_toInt64, lg_cmp_ge, lg_cmp_le, lg_cmp_gt, lg_cmp_lt, lg_cmp_eq, Bool.false_eq_true, Bool.true_eq_false, reduceCtorEq, false_iff, true_iff, iff_true, iff_false, and_true, true_and, and_false, false_and, reduceIte, ite_true, ite_false, eq_self] at *)) <;> omega) ?_
          refine wa_goto o_X12_line_70 (by decide) ?_
          refine wa_lreturn rfl rfl ?_
          exact ⟨_, rfl, Fs17, trivial⟩
      · refine wa_lconst (v := 0) (by decide) ?_
        refine wa_goto o_X12_line_70 (by decide) ?_
        refine wa_lreturn rfl rfl ?_
        exact ⟨_, rfl, Fs17, trivial⟩
set_option maxHeartbeats 4000000 in
theorem sp_X12_max (G : kG9) {d : Nat} (hd : 0 ≤ d) (σ : St) (a0 : Int64) (a1 : Int64) : Ct G M_X12_max d [.long a0, .long a1] σ (fun r σ' => ∃ x : Int64, r = some (.long x) ∧ σ = σ' ∧ (a0.toInt ≤ x.toInt ∧ a1.toInt ≤ x.toInt ∧ (x.toInt = a0.toInt ∨ x.toInt = a1.toInt)) ∧ True) := by
  refine wa_start (by decide) rfl (Nat.le_of_ble_eq_true rfl) (lv := [(0, .long a0), (2, .long a1)]) rfl o_X12_max_0 rfl ?_
  refine wa_lload_n (i := 0) rfl rfl ?_
  refine wa_lload_n (i := 2) rfl rfl ?_
  refine wa_lcmp ?_
  refine wa_top (fun v1 hv1 => ?_)
  have tv1 := i_cmpT hv1
  clear hv1
  refine wa_if_le o_X12_max_10 (by decide) (fun h2 => ?_) (fun h2 => ?_)
  · refine wa_lload_n (i := 2) rfl rfl ?_
    refine wa_lreturn rfl rfl ?_
    exact ⟨_, rfl, rfl, (by ((try simp only [vp_in_iff, Int32.lt_iff_toInt_lt, Int32.le_iff_toInt_le, ← Int32.toInt_inj, Int32.reduceToInt, n_1, n_2, n_8, Int32.toNatClampNeg, Int64.lt_iff_toInt_lt, Int64.le_iff_toInt_le, ← Int64.toInt_inj, Int64.reduceToInt, Int32.toInt_toInt64, lg_cmp_ge, lg_cmp_le, lg_cmp_gt, lg_cmp_lt, lg_cmp_eq, Bool.false_eq_true, Bool.true_eq_false, reduceCtorEq, false_iff, true_iff, iff_true, iff_false, and_true, true_and, and_false, false_and, reduceIte, ite_true, ite_false, eq_self] at *)) <;> omega), trivial⟩
  · refine wa_lload_n (i := 0) rfl rfl ?_
    refine wa_goto o_X12_max_11 (by decide) ?_
    refine wa_lreturn rfl rfl ?_
    exact ⟨_, rfl, rfl, (by ((try simp only [vp_in_iff, Int32.lt_iff_toInt_lt, Int32.le_iff_toInt_le, ← Int32.toInt_inj, Int32.reduceToInt, n_1, n_2, n_8, Int32.toNatClampNeg, Int64.lt_iff_toInt_lt, Int64.le_iff_toInt_le, ← Int64.toInt_inj, Int64.reduceToInt, Int32.toInt_toInt64, lg_cmp_ge, lg_cmp_le, lg_cmp_gt, lg_cmp_lt, lg_cmp_eq, Bool.false_eq_true, Bool.true_eq_false, reduceCtorEq, false_iff, true_iff, iff_true, iff_false, and_true, true_and, and_false, false_and, reduceIte, ite_true, ite_false, eq_self] at *)) <;> omega), trivial⟩
set_option maxHeartbeats 4000000 in
theorem sp_X12_times (G : kG9) {d : Nat} (hd : 0 ≤ d) (σ : St) (a0 : Int64) (p1 : 0 ≤ a0.toInt ∧ a0.toInt < 100000000) (r1 : 0 ≤ (gi σ 84 194).toInt ∧ (gi σ 84 194).toInt ≤ 3990) (A_85 : AR ap_85 σ 85) : Ct G M_X12_times d [.ref 84, .long a0] σ (fun r σ' => Fm [85] [194] σ σ' ∧ ((gi σ 84 194).toInt ≤ (gi σ' 84 194).toInt ∧ (gi σ' 84 194).toInt ≤ (gi σ 84 194).toInt + 2) ∧ AR ap_85 σ' 85 ∧ True) := by
  refine wa_start (by decide) rfl (Nat.le_of_ble_eq_true rfl) (lv := [(0, .ref 84), (1, .long a0)]) rfl o_X12_times_0 rfl ?_
  refine wa_lconst (v := 0) (by decide) ?_
  refine wa_lstore_nD (lv' := [(3, .long 0), (0, .ref 84), (1, .long a0)]) (i := 3) rfl (by decide) rfl ?_
  refine wa_iconst (v := 0) (by decide) ?_
  refine wa_istoreD (lv' := [(5, .int 0), (3, .long 0), (0, .ref 84), (1, .long a0)]) (by decide) rfl ?_
  refine wa_pick [2, 3, 1, 0] rfl ?_
  have hi3 : ∀ (n9_5 : Nat) (l3 : Int64) (l5 : Int32) (s1 : St), ((Fm [85] [194] σ s1) ∧ (gi s1 84 194 = gi σ 84 194) ∧ (AR ap_85 s1 85) ∧ (0 ≤ l5.toInt) ∧ (0 ≤ l3.toInt ∧ l3.toInt ≤ a0.toInt) ∧ (True)) → (2147483647 - l5.toInt).toNat = n9_5 → WA G M_X12_times (ZM G M_X12_times d (fun r σ' => Fm [85] [194] σ σ' ∧ ((gi σ 84 194).toInt ≤ (gi σ' 84 194).toInt ∧ (gi σ' 84 194).toInt ≤ (gi σ 84 194).toInt + 2) ∧ AR ap_85 σ' 85 ∧ True)) B_X12_times_5 [(0, .ref 84), (1, .long a0), (3, .long l3), (5, .int l5)] [] s1 := by
    intro n9_5
    induction n9_5 using Nat.strongRecOn with
    | _ n9_5 ih2 =>
      intro l3 l5 s1 i9 m9_5
      obtain ⟨Fs1, khi3_0, As1_85, jhi3_0, jhi3_1, -⟩ := i9
      have ul5 := Int32.toInt_lt l5
      have wl5 := Int32.le_toInt l5
      refine wa_iload rfl ?_
      refine wa_aload_n (i := 0) rfl rfl ?_
      refine wa_geti ck_12 fl_12_1299 ly_84 ?_
      refine wa_rw (khi3_0) ?_
      refine wa_icmp_ge o_X12_times_55 (by decide) (fun h4 => ?_) (fun h4 => ?_)
      · refine wa_pick [0, 2] rfl ?_
        have hi7 : ∀ (n9_55 : Nat) (l3 : Int64) (s5 : St), ((Fm [85] [194] σ s5) ∧ (AR ap_85 s5 85) ∧ (0 ≤ l3.toInt) ∧ (((gi s5 84 194).toInt = (gi σ 84 194).toInt ∧ l3.toInt < 100000000) ∨ ((gi s5 84 194).toInt = (gi σ 84 194).toInt + 1 ∧ l3.toInt < 10000) ∨ ((gi s5 84 194).toInt = (gi σ 84 194).toInt + 2 ∧ l3.toInt = 0)) ∧ (True)) → (l3.toInt).toNat = n9_55 → WA G M_X12_times (ZM G M_X12_times d (fun r σ' => Fm [85] [194] σ σ' ∧ ((gi σ 84 194).toInt ≤ (gi σ' 84 194).toInt ∧ (gi σ' 84 194).toInt ≤ (gi σ 84 194).toInt + 2) ∧ AR ap_85 σ' 85 ∧ True)) B_X12_times_55 [(0, .ref 84), (3, .long l3)] [] s5 := by
          intro n9_55
          induction n9_55 using Nat.strongRecOn with
          | _ n9_55 ih6 =>
            intro l3 s5 i9 m9_55
            obtain ⟨Fs5, As5_85, jhi7_0, jhi7_1, -⟩ := i9
            refine wa_lload_n (i := 3) rfl rfl ?_
            refine wa_lconst (v := 0) (by decide) ?_
            refine wa_lcmp ?_
            refine wa_top (fun v8 hv8 => ?_)
            have tv8 := i_cmpT hv8
            clear hv8
            refine wa_if_le o_X12_times_95 (by decide) (fun h9 => ?_) (fun h9 => ?_)
            · refine wa_return (st := []) rfl rfl ?_
              exact ⟨Fs5, (by first | assumption | (((try simp only [vp_in_iff, Int32.lt_iff_toInt_lt, Int32.le_iff_toInt_le, ← Int32.toInt_inj, Int32.reduceToInt, n_1, n_2, n_8, Int32.toNatClampNeg, Int64.lt_iff_toInt_lt, Int64.le_iff_toInt_le, ← Int64.toInt_inj, Int64.reduceToInt, Int32.toInt_toInt64, lg_cmp_ge, lg_cmp_le, lg_cmp_gt, lg_cmp_lt, lg_cmp_eq, Bool.false_eq_true, Bool.true_eq_false, reduceCtorEq, false_iff, true_iff, iff_true, iff_false, and_true, true_and, and_false, false_and, reduceIte, ite_true, ite_false, eq_self] at *)) <;> omega)), As5_85, trivial⟩
            · refine wa_aload_n (i := 0) rfl rfl ?_
              refine wa_getr ck_12 fl_12_456 ly_84 rf_84_193 ?_
              refine wa_aload_n (i := 0) rfl rfl ?_
              refine wa_geti ck_12 fl_12_1299 ly_84 ?_
              refine wa_lload_n (i := 3) rfl rfl ?_
              refine wa_ldc2 (v := (10000)) (allW_in (kT_16 _ (List.mem_of_getElem? (i := 11) rfl)) rfl) ?_
              refine wa_lrem (by ((try simp only [vp_in_iff, Int32.lt_iff_toInt_lt, Int32.le_iff_toInt_le, ← Int32.toInt_inj, Int32.reduceToInt, n_1, n_2, n_8, Int32.toNatClampNeg, Int64.lt_iff_toInt_lt, Int64.le_iff_toInt_le, ← Int64.toInt_inj, Int64.reduceToInt, Int32.toInt_toInt64, lg_cmp_ge, lg_cmp_le, lg_cmp_gt, lg_cmp_lt, lg_cmp_eq, Bool.false_eq_true, Bool.true_eq_false, reduceCtorEq, false_iff, true_iff, iff_true, iff_false, and_true, true_and, and_false, false_and, reduceIte, ite_true, ite_false, eq_self] at *)) <;> omega) ?_
              refine wa_topl (fun v10 hv10 => ?_)
              have tv10 := l_remU hv10
              clear hv10
              refine wa_l2i ?_
              refine wa_top (fun v11 hv11 => ?_)
              have tv11 := i_l2iU hv11
              clear hv11
              refine wa_iast ly_85 (by ((try simp only [vp_in_iff, Int32.lt_iff_toInt_lt, Int32.le_iff_toInt_le, ← Int32.toInt_inj, Int32.reduceToInt, n_1, n_2, n_8, Int32.toNatClampNeg, Int64.lt_iff_toInt_lt, Int64.le_iff_toInt_le, ← Int64.toInt_inj, Int64.reduceToInt, Int32.toInt_toInt64, lg_cmp_ge, lg_cmp_le, lg_cmp_gt, lg_cmp_lt, lg_cmp_eq, Bool.false_eq_true, Bool.true_eq_false, reduceCtorEq, false_iff, true_iff, iff_true, iff_false, and_true, true_and, and_false, false_and, reduceIte, ite_true, ite_false, eq_self] at *)) <;> omega) (fun s12 hs12 => ?_)
              have Fs12 : Fm [85] [194] σ s12 := by rw [hs12]; exact Fm.si Fs5 rfl
              have Vs12 : 0 ≤ (v11 : Int32).toInt ∧ (v11 : Int32).toInt ≤ 9999 := by ((try simp only [vp_in_iff, Int32.lt_iff_toInt_lt, Int32.le_iff_toInt_le, ← Int32.toInt_inj, Int32.reduceToInt, n_1, n_2, n_8, Int32.toNatClampNeg, Int64.lt_iff_toInt_lt, Int64.le_iff_toInt_le, ← Int64.toInt_inj, Int64.reduceToInt, Int32.toInt_toInt64, lg_cmp_ge, lg_cmp_le, lg_cmp_gt, lg_cmp_lt, lg_cmp_eq, Bool.false_eq_true, Bool.true_eq_false, reduceCtorEq, false_iff, true_iff, iff_true, iff_false, and_true, true_and, and_false, false_and, reduceIte, ite_true, ite_false, eq_self] at *)) <;> omega
              refine wa_lload_n (i := 3) rfl rfl ?_
              refine wa_ldc2 (v := (10000)) (allW_in (kT_16 _ (List.mem_of_getElem? (i := 11) rfl)) rfl) ?_
              refine wa_ldiv (by ((try simp only [vp_in_iff, Int32.lt_iff_toInt_lt, Int32.le_iff_toInt_le, ← Int32.toInt_inj, Int32.reduceToInt, n_1, n_2, n_8, Int32.toNatClampNeg, Int64.lt_iff_toInt_lt, Int64.le_iff_toInt_le, ← Int64.toInt_inj, Int64.reduceToInt, Int32.toInt_toInt64, lg_cmp_ge, lg_cmp_le, lg_cmp_gt, lg_cmp_lt, lg_cmp_eq, Bool.false_eq_true, Bool.true_eq_false, reduceCtorEq, false_iff, true_iff, iff_true, iff_false, and_true, true_and, and_false, false_and, reduceIte, ite_true, ite_false, eq_self] at *)) <;> omega) ?_
              refine wa_topl (fun v13 hv13 => ?_)
              have tv13 := l_divU hv13
              clear hv13
              refine wa_lstore_nD (lv' := [(3, .long v13), (0, .ref 84)]) (i := 3) rfl (by decide) rfl ?_
              refine wa_aload_n (i := 0) rfl rfl ?_
              refine wa_dup rfl ?_
              refine wa_geti ck_12 fl_12_1299 ly_84 ?_
              refine wa_rw (nxq_gi_si hs12 (by decide)) ?_
              refine wa_iconst (v := 1) (by decide) ?_
              refine wa_iadd ?_
              refine wa_top (fun v14 hv14 => ?_)
              have tv14 := i_addT hv14
              clear hv14
              refine wa_puti ck_12 fl_12_1299 ly_84 (fun s15 hs15 => ?_)
              have Fs15 : Fm [85] [194] σ s15 := by rw [hs15]; exact Fm.si Fs12 rfl
              refine wa_goto o_X12_times_55 (by decide) ?_
              refine wa_pick [1, 0] rfl ?_
              exact ih6 _ (by ((try simp only [vp_in_iff, Int32.lt_iff_toInt_lt, Int32.le_iff_toInt_le, ← Int32.toInt_inj, Int32.reduceToInt, n_1, n_2, n_8, Int32.toNatClampNeg, Int64.lt_iff_toInt_lt, Int64.le_iff_toInt_le, ← Int64.toInt_inj, Int64.reduceToInt, Int32.toInt_toInt64, lg_cmp_ge, lg_cmp_le, lg_cmp_gt, lg_cmp_lt, lg_cmp_eq, Bool.false_eq_true, Bool.true_eq_false, reduceCtorEq, false_iff, true_iff, iff_true, iff_false, and_true, true_and, and_false, false_and, reduceIte, ite_true, ite_false, eq_self] at *)) <;> omega) _ _ ⟨Fs15, (ar_ni hs15 (by decide) (ar_w hs12 Vs12 As5_85)), (by ((try simp only [vp_in_iff, Int32.lt_iff_toInt_lt, Int32.le_iff_toInt_le, ← Int32.toInt_inj, Int32.reduceToInt, n_1, n_2, n_8, Int32.toNatClampNeg, Int64.lt_iff_toInt_lt, Int64.le_iff_toInt_le, ← Int64.toInt_inj, Int64.reduceToInt, Int32.toInt_toInt64, lg_cmp_ge, lg_cmp_le, lg_cmp_gt, lg_cmp_lt, lg_cmp_eq, Bool.false_eq_true, Bool.true_eq_false, reduceCtorEq, false_iff, true_iff, iff_true, iff_false, and_true, true_and, and_false, false_and, reduceIte, ite_true, ite_false, eq_self] at *)) <;> omega), (by rw [nxe_gi_si hs15]; first | assumption | (((try simp only [vp_in_iff, Int32.lt_iff_toInt_lt, Int32.le_iff_toInt_le, ← Int32.toInt_inj, Int32.reduceToInt, n_1, n_2, n_8, Int32.toNatClampNeg, Int64.lt_iff_toInt_lt, Int64.le_iff_toInt_le, ← Int64.toInt_inj, Int64.reduceToInt, Int32.toInt_toInt64, lg_cmp_ge, lg_cmp_le, lg_cmp_gt, lg_cmp_lt, lg_cmp_eq, Bool.false_eq_true, Bool.true_eq_false, reduceCtorEq, false_iff, true_iff, iff_true, iff_false, and_true, true_and, and_false, false_and, reduceIte, ite_true, ite_false, eq_self] at *)) <;> omega)), trivial⟩ rfl
        exact hi7 _ _ _ ⟨Fs1, As1_85, (by ((try simp only [vp_in_iff, Int32.lt_iff_toInt_lt, Int32.le_iff_toInt_le, ← Int32.toInt_inj, Int32.reduceToInt, n_1, n_2, n_8, Int32.toNatClampNeg, Int64.lt_iff_toInt_lt, Int64.le_iff_toInt_le, ← Int64.toInt_inj, Int64.reduceToInt, Int32.toInt_toInt64, lg_cmp_ge, lg_cmp_le, lg_cmp_gt, lg_cmp_lt, lg_cmp_eq, Bool.false_eq_true, Bool.true_eq_false, reduceCtorEq, false_iff, true_iff, iff_true, iff_false, and_true, true_and, and_false, false_and, reduceIte, ite_true, ite_false, eq_self] at *)) <;> omega), (by rw [khi3_0]; first | assumption | (((try simp only [vp_in_iff, Int32.lt_iff_toInt_lt, Int32.le_iff_toInt_le, ← Int32.toInt_inj, Int32.reduceToInt, n_1, n_2, n_8, Int32.toNatClampNeg, Int64.lt_iff_toInt_lt, Int64.le_iff_toInt_le, ← Int64.toInt_inj, Int64.reduceToInt, Int32.toInt_toInt64, lg_cmp_ge, lg_cmp_le, lg_cmp_gt, lg_cmp_lt, lg_cmp_eq, Bool.false_eq_true, Bool.true_eq_false, reduceCtorEq, false_iff, true_iff, iff_true, iff_false, and_true, true_and, and_false, false_and, reduceIte, ite_true, ite_false, eq_self] at *)) <;> omega)), trivial⟩ rfl
      · have mh4 := nle_mx h4
        refine wa_aload_n (i := 0) rfl rfl ?_
        refine wa_getr ck_12 fl_12_456 ly_84 rf_84_193 ?_
        refine wa_iload rfl ?_
        refine wa_iald ly_85 (by ((try simp only [vp_in_iff, Int32.lt_iff_toInt_lt, Int32.le_iff_toInt_le, ← Int32.toInt_inj, Int32.reduceToInt, n_1, n_2, n_8, Int32.toNatClampNeg, Int64.lt_iff_toInt_lt, Int64.le_iff_toInt_le, ← Int64.toInt_inj, Int64.reduceToInt, Int32.toInt_toInt64, lg_cmp_ge, lg_cmp_le, lg_cmp_gt, lg_cmp_lt, lg_cmp_eq, Bool.false_eq_true, Bool.true_eq_false, reduceCtorEq, false_iff, true_iff, iff_true, iff_false, and_true, true_and, and_false, false_and, reduceIte, ite_true, ite_false, eq_self] at *)) <;> omega) ?_
        refine wa_top (fun v16 hv16 => ?_)
        have rv16 : 0 ≤ v16.toInt ∧ v16.toInt ≤ 9999 := by rw [← hv16]; exact ar_at As1_85 _
        have mv16 : 0 ≤ v16.toInt * a0.toInt ∧ v16.toInt * a0.toInt ≤ 9999 * a0.toInt := mul_bd rv16.1 rv16.2 p1.1
        clear hv16
        refine wa_i2l ?_
        refine wa_lload_n (i := 1) rfl rfl ?_
        refine wa_lmul ?_
        refine wa_topl (fun v17 hv17 => ?_)
        have tv17 := m_l_remU hv17
        clear hv17
        refine wa_lload_n (i := 3) rfl rfl ?_
        refine wa_ladd ?_
        refine wa_topl (fun v18 hv18 => ?_)
        have tv18 := a_l_remU hv18
        clear hv18
        refine wa_lstoreD (lv' := [(6, .long v18), (0, .ref 84), (1, .long a0), (3, .long l3), (5, .int l5)]) (by decide) rfl ?_
        refine wa_aload_n (i := 0) rfl rfl ?_
        refine wa_getr ck_12 fl_12_456 ly_84 rf_84_193 ?_
        refine wa_iload rfl ?_
        refine wa_lload rfl ?_
        refine wa_ldc2 (v := (10000)) (allW_in (kT_16 _ (List.mem_of_getElem? (i := 11) rfl)) rfl) ?_
        refine wa_lrem (by ((try simp only [vp_in_iff, Int32.lt_iff_toInt_lt, Int32.le_iff_toInt_le, ← Int32.toInt_inj, Int32.reduceToInt, n_1, n_2, n_8, Int32.toNatClampNeg, Int64.lt_iff_toInt_lt, Int64.le_iff_toInt_le, ← Int64.toInt_inj, Int64.reduceToInt, Int32.toInt_toInt64, lg_cmp_ge, lg_cmp_le, lg_cmp_gt, lg_cmp_lt, lg_cmp_eq, Bool.false_eq_true, Bool.true_eq_false, reduceCtorEq, false_iff, true_iff, iff_true, iff_false, and_true, true_and, and_false, false_and, reduceIte, ite_true, ite_false, eq_self] at *)) <;> omega) ?_
        refine wa_topl (fun v19 hv19 => ?_)
        have tv19 := l_remU hv19
        clear hv19
        refine wa_l2i ?_
        refine wa_top (fun v20 hv20 => ?_)
        have tv20 := i_l2iU hv20
        clear hv20
        refine wa_iast ly_85 (by ((try simp only [vp_in_iff, Int32.lt_iff_toInt_lt, Int32.le_iff_toInt_le, ← Int32.toInt_inj, Int32.reduceToInt, n_1, n_2, n_8, Int32.toNatClampNeg, Int64.lt_iff_toInt_lt, Int64.le_iff_toInt_le, ← Int64.toInt_inj, Int64.reduceToInt, Int32.toInt_toInt64, lg_cmp_ge, lg_cmp_le, lg_cmp_gt, lg_cmp_lt, lg_cmp_eq, Bool.false_eq_true, Bool.true_eq_false, reduceCtorEq, false_iff, true_iff, iff_true, iff_false, and_true, true_and, and_false, false_and, reduceIte, ite_true, ite_false, eq_self] at *)) <;> omega) (fun s21 hs21 => ?_)
        have Fs21 : Fm [85] [194] σ s21 := by rw [hs21]; exact Fm.si Fs1 rfl
        have Vs21 : 0 ≤ (v20 : Int32).toInt ∧ (v20 : Int32).toInt ≤ 9999 := by ((try simp only [vp_in_iff, Int32.lt_iff_toInt_lt, Int32.le_iff_toInt_le, ← Int32.toInt_inj, Int32.reduceToInt, n_1, n_2, n_8, Int32.toNatClampNeg, Int64.lt_iff_toInt_lt, Int64.le_iff_toInt_le, ← Int64.toInt_inj, Int64.reduceToInt, Int32.toInt_toInt64, lg_cmp_ge, lg_cmp_le, lg_cmp_gt, lg_cmp_lt, lg_cmp_eq, Bool.false_eq_true, Bool.true_eq_false, reduceCtorEq, false_iff, true_iff, iff_true, iff_false, and_true, true_and, and_false, false_and, reduceIte, ite_true, ite_false, eq_self] at *)) <;> omega
        refine wa_lload rfl ?_
        refine wa_ldc2 (v := (10000)) (allW_in (kT_16 _ (List.mem_of_getElem? (i := 11) rfl)) rfl) ?_
        refine wa_ldiv (by ((try simp only [vp_in_iff, Int32.lt_iff_toInt_lt, Int32.le_iff_toInt_le, ← Int32.toInt_inj, Int32.reduceToInt, n_1, n_2, n_8, Int32.toNatClampNeg, Int64.lt_iff_toInt_lt, Int64.le_iff_toInt_le, ← Int64.toInt_inj, Int64.reduceToInt, Int32.toInt_toInt64, lg_cmp_ge, lg_cmp_le, lg_cmp_gt, lg_cmp_lt, lg_cmp_eq, Bool.false_eq_true, Bool.true_eq_false, reduceCtorEq, false_iff, true_iff, iff_true, iff_false, and_true, true_and, and_false, false_and, reduceIte, ite_true, ite_false, eq_self] at *)) <;> omega) ?_
        refine wa_topl (fun v22 hv22 => ?_)
        have tv22 := l_divU hv22
        clear hv22
        refine wa_lstore_nD (lv' := [(3, .long v22), (6, .long v18), (0, .ref 84), (1, .long a0), (5, .int l5)]) (i := 3) rfl (by decide) rfl ?_
        refine wa_iinc (v := (1)) (lv' := fun y23 => [(5, .int y23), (3, .long v22), (6, .long v18), (0, .ref 84), (1, .long a0)]) (by decide) rfl (by decide) (fun _ => rfl) (fun y23 hy23 => ?_)
        have ty23 := i_addT hy23.symm
        clear hy23
        refine wa_goto o_X12_times_5 (by decide) ?_
        refine wa_pick [3, 4, 1, 0] rfl ?_
        exact ih2 _ (by ((try simp only [vp_in_iff, Int32.lt_iff_toInt_lt, Int32.le_iff_toInt_le, ← Int32.toInt_inj, Int32.reduceToInt, n_1, n_2, n_8, Int32.toNatClampNeg, Int64.lt_iff_toInt_lt, Int64.le_iff_toInt_le, ← Int64.toInt_inj, Int64.reduceToInt, Int32.toInt_toInt64, lg_cmp_ge, lg_cmp_le, lg_cmp_gt, lg_cmp_lt, lg_cmp_eq, Bool.false_eq_true, Bool.true_eq_false, reduceCtorEq, false_iff, true_iff, iff_true, iff_false, and_true, true_and, and_false, false_and, reduceIte, ite_true, ite_false, eq_self] at *)) <;> omega) _ _ _ ⟨Fs21, ((nxq_gi_si hs21 (by decide)).trans (khi3_0)), (ar_w hs21 Vs21 As1_85), (by ((try simp only [vp_in_iff, Int32.lt_iff_toInt_lt, Int32.le_iff_toInt_le, ← Int32.toInt_inj, Int32.reduceToInt, n_1, n_2, n_8, Int32.toNatClampNeg, Int64.lt_iff_toInt_lt, Int64.le_iff_toInt_le, ← Int64.toInt_inj, Int64.reduceToInt, Int32.toInt_toInt64, lg_cmp_ge, lg_cmp_le, lg_cmp_gt, lg_cmp_lt, lg_cmp_eq, Bool.false_eq_true, Bool.true_eq_false, reduceCtorEq, false_iff, true_iff, iff_true, iff_false, and_true, true_and, and_false, false_and, reduceIte, ite_true, ite_false, eq_self] at *)) <;> omega), (by ((try simp only [vp_in_iff, Int32.lt_iff_toInt_lt, Int32.le_iff_toInt_le, ← Int32.toInt_inj, Int32.reduceToInt, n_1, n_2, n_8, Int32.toNatClampNeg, Int64.lt_iff_toInt_lt, Int64.le_iff_toInt_le, ← Int64.toInt_inj, Int64.reduceToInt, Int32.toInt_toInt64, lg_cmp_ge, lg_cmp_le, lg_cmp_gt, lg_cmp_lt, lg_cmp_eq, Bool.false_eq_true, Bool.true_eq_false, reduceCtorEq, false_iff, true_iff, iff_true, iff_false, and_true, true_and, and_false, false_and, reduceIte, ite_true, ite_false, eq_self] at *)) <;> omega), trivial⟩ rfl
  exact hi3 _ _ _ _ ⟨(Fm.rf [85] [194] σ), (rfl), A_85, (by ((try simp only [vp_in_iff, Int32.lt_iff_toInt_lt, Int32.le_iff_toInt_le, ← Int32.toInt_inj, Int32.reduceToInt, n_1, n_2, n_8, Int32.toNatClampNeg, Int64.lt_iff_toInt_lt, Int64.le_iff_toInt_le, ← Int64.toInt_inj, Int64.reduceToInt, Int32.toInt_toInt64, lg_cmp_ge, lg_cmp_le, lg_cmp_gt, lg_cmp_lt, lg_cmp_eq, Bool.false_eq_true, Bool.true_eq_false, reduceCtorEq, false_iff, true_iff, iff_true, iff_false, and_true, true_and, and_false, false_and, reduceIte, ite_true, ite_false, eq_self] at *)) <;> omega), (by ((try simp only [vp_in_iff, Int32.lt_iff_toInt_lt, Int32.le_iff_toInt_le, ← Int32.toInt_inj, Int32.reduceToInt, n_1, n_2, n_8, Int32.toNatClampNeg, Int64.lt_iff_toInt_lt, Int64.le_iff_toInt_le, ← Int64.toInt_inj, Int64.reduceToInt, Int32.toInt_toInt64, lg_cmp_ge, lg_cmp_le, lg_cmp_gt, lg_cmp_lt, lg_cmp_eq, Bool.false_eq_true, Bool.true_eq_false, reduceCtorEq, false_iff, true_iff, iff_true, iff_false, and_true, true_and, and_false, false_and, reduceIte, ite_true, ite_false, eq_self] at *)) <;> omega), trivial⟩ rfl
set_option maxHeartbeats 4000000 in
theorem sp_X12_bound (G : kG9) {d : Nat} (hd : 3 ≤ d) (σ : St) (a0 : Int32) (r1 : 0 ≤ (gi σ 84 33).toInt ∧ (gi σ 84 33).toInt ≤ 24) (r2 : 0 ≤ (gi σ 84 32).toInt ∧ (gi σ 84 32).toInt ≤ 4) (A_85 : AR ap_85 σ 85) (A_135 : AR ap_135 σ 135) (A_136 : AR ap_136 σ 136) (A_137 : AR ap_137 σ 137) (A_156 : AR ap_156 σ 156) (A_157 : AR ap_157 σ 157) (A_158 : AR ap_158 σ 158) (A_159 : AR ap_159 σ 159) (P_AOK : AOK σ) (P_WOK : WOK σ) : Ct G M_X12_bound d [.ref 84, .int a0] σ (fun r σ' => ∃ x : Int32, r = some (.int x) ∧ Fm [85, 133, 135, 136, 137] [0, 119, 194] σ σ' ∧ AR ap_85 σ' 85 ∧ AR ap_135 σ' 135 ∧ AR ap_136 σ' 136 ∧ AR ap_137 σ' 137 ∧ WOK σ' ∧ True) := by
  refine wa_start (by decide) rfl (Nat.le_of_ble_eq_true rfl) (lv := [(0, .ref 84), (1, .int a0)]) rfl o_X12_bound_0 rfl ?_
  have ua0 := Int32.toInt_lt a0
  have wa0 := Int32.le_toInt a0
  refine wa_aload_n (i := 0) rfl rfl ?_
  refine wa_Vi (d9 := d - 1) [] [] (sp_X12_asks G (d := d - 1) (by omega) σ ) (rfl) rfl rfl (zr (by omega)) mk_X12_asks ly_84 ml_12_871 (Nat.le_of_ble_eq_true rfl) (fun x2 s1 hs1 => ?_)
  obtain ⟨bx2, ex2, fs1, -⟩ := pB hs1
  subst ex2
  have Fs1 : Fm [85, 133, 135, 136, 137] [0, 119, 194] σ s1 := Fm.tr (Fm.rf [85, 133, 135, 136, 137] [0, 119, 194] σ) (Fm.wd fs1 rfl rfl)
  refine wa_if_ne o_X12_bound_10 (by decide) (fun h3 => ?_) (fun h3 => ?_)
  · replace h3 := bI_t (b := bx2) (rfl) h3
    refine wa_aload_n (i := 0) rfl rfl ?_
    refine wa_Vv (d9 := d - 1) [] [] (sp_X12_putOn G (d := d - 1) (by omega) s1  (by rw [Fm.gi fs1 (q := 84) (k := 33) rfl rfl]; first | assumption | exact Or.inl rfl | exact Or.inr rfl | (((try simp only [vp_in_iff, Int32.lt_iff_toInt_lt, Int32.le_iff_toInt_le, ← Int32.toInt_inj, Int32.reduceToInt, n_1, n_2, n_8, Int32.toNatClampNeg, Int64.lt_iff_toInt_lt, Int64.le_iff_toInt_le, ← Int64.toInt_inj, Int64.reduceToInt, Int32.toInt_toInt64, lg_cmp_ge, lg_cmp_le, lg_cmp_gt, lg_cmp_lt, lg_cmp_eq, Bool.false_eq_true, Bool.true_eq_false, reduceCtorEq, false_iff, true_iff, iff_true, iff_false, and_true, true_and, and_false, false_and, reduceIte, ite_true, ite_false, eq_self] at *)) <;> omega)) (ar_fm fs1 rfl rfl A_135) (ar_fm fs1 rfl rfl A_136) (ar_fm fs1 rfl rfl A_137) (ar_fm fs1 rfl rfl A_156) (ar_fm fs1 rfl rfl A_157) (ar_fm fs1 rfl rfl A_158) (ar_fm fs1 rfl rfl A_159) (AOK_of (fun k => Fm.gi fs1 (q := 157) (k := k) rfl rfl) (fun k => Fm.gi fs1 (q := 158) (k := k) rfl rfl) P_AOK) (WOK_of (fun k => Fm.gi fs1 (q := 135) (k := k) rfl rfl) (fun k => Fm.gi fs1 (q := 136) (k := k) rfl rfl) P_WOK)) (rfl) rfl rfl (zr (by omega)) mk_X12_putOn ly_84 ml_12_982 (Nat.le_of_ble_eq_true rfl) (fun s4 hs4 => ?_)
    obtain ⟨fs4, cx5_1, As4_135, As4_136, As4_137, Ps4_WOK, Ps4_INW, -⟩ := hs4
    have Fs4 : Fm [85, 133, 135, 136, 137] [0, 119, 194] σ s4 := Fm.tr Fs1 (Fm.wd fs4 rfl rfl)
    refine wa_lconst (v := 0) (by decide) ?_
    refine wa_lstore_nD (lv' := [(2, .long 0), (0, .ref 84), (1, .int a0)]) (i := 2) rfl (by decide) rfl ?_
    refine wa_lconst (v := 1) (by decide) ?_
    refine wa_lstoreD (lv' := [(4, .long 1), (2, .long 0), (0, .ref 84), (1, .int a0)]) (by decide) rfl ?_
    refine wa_iconst (v := 0) (by decide) ?_
    refine wa_istoreD (lv' := [(6, .int 0), (4, .long 1), (2, .long 0), (0, .ref 84), (1, .int a0)]) (by decide) rfl ?_
    refine wa_pick [3, 4, 2, 1, 0] rfl ?_
    have hi8 : ∀ (n9_22 : Nat) (l2 : Int64) (l4 : Int64) (l6 : Int32) (s6 : St), ((Fm [85, 133, 135, 136, 137] [0, 119, 194] σ s6) ∧ (gi s6 84 33 = gi σ 84 33) ∧ (gi s6 84 32 = gi σ 84 32) ∧ (gi s6 84 119 = gi s4 84 119) ∧ (gi s6 84 194 = gi σ 84 194) ∧ (AR ap_85 s6 85) ∧ (AR ap_135 s6 135) ∧ (AR ap_136 s6 136) ∧ (AR ap_137 s6 137) ∧ (WOK s6) ∧ (0 ≤ l6.toInt) ∧ (0 ≤ l2.toInt ∧ l2.toInt ≤ l6.toInt) ∧ (1 ≤ l4.toInt ∧ l4.toInt ≤ 99999) ∧ (True)) → (2147483647 - l6.toInt).toNat = n9_22 → WA G M_X12_bound (ZM G M_X12_bound d (fun r σ' => ∃ x : Int32, r = some (.int x) ∧ Fm [85, 133, 135, 136, 137] [0, 119, 194] σ σ' ∧ AR ap_85 σ' 85 ∧ AR ap_135 σ' 135 ∧ AR ap_136 σ' 136 ∧ AR ap_137 σ' 137 ∧ WOK σ' ∧ True)) B_X12_bound_22 [(0, .ref 84), (1, .int a0), (2, .long l2), (4, .long l4), (6, .int l6)] [] s6 := by
      intro n9_22
      induction n9_22 using Nat.strongRecOn with
      | _ n9_22 ih7 =>
        intro l2 l4 l6 s6 i9 m9_22
        obtain ⟨Fs6, khi8_0, khi8_1, khi8_2, khi8_3, As6_85, As6_135, As6_136, As6_137, Ps6_WOK, jhi8_0, jhi8_1, jhi8_2, -⟩ := i9
        have ul6 := Int32.toInt_lt l6
        have wl6 := Int32.le_toInt l6
        refine wa_iload rfl ?_
        refine wa_aload_n (i := 0) rfl rfl ?_
        refine wa_geti ck_12 fl_12_928 ly_84 ?_
        refine wa_rw (khi8_2) ?_
        refine wa_icmp_ge o_X12_bound_157 (by decide) (fun h9 => ?_) (fun h9 => ?_)
        · refine wa_lload_n (i := 2) rfl rfl ?_
          refine wa_lconst (v := 0) (by decide) ?_
          refine wa_lcmp ?_
          refine wa_top (fun v10 hv10 => ?_)
          have tv10 := i_cmpT hv10
          clear hv10
          refine wa_if_eq o_X12_bound_174 (by decide) (fun h11 => ?_) (fun h11 => ?_)
          · refine wa_iconst (v := 0) (by decide) ?_
            refine wa_ireturn rfl rfl ?_
            exact ⟨_, rfl, Fs6, As6_85, As6_135, As6_136, As6_137, Ps6_WOK, trivial⟩
          · refine wa_aload_n (i := 0) rfl rfl ?_
            refine wa_geti ck_12 fl_12_815 ly_84 ?_
            refine wa_rw (khi8_1) ?_
            refine wa_if_eq o_X12_bound_174 (by decide) (fun h12 => ?_) (fun h12 => ?_)
            · refine wa_iconst (v := 0) (by decide) ?_
              refine wa_ireturn rfl rfl ?_
              exact ⟨_, rfl, Fs6, As6_85, As6_135, As6_136, As6_137, Ps6_WOK, trivial⟩
            · refine wa_iload_n (i := 1) rfl rfl ?_
              refine wa_if_ge o_X12_bound_176 (by decide) (fun h13 => ?_) (fun h13 => ?_)
              · refine wa_aload_n (i := 0) rfl rfl ?_
                refine wa_getr ck_12 fl_12_456 ly_84 rf_84_193 ?_
                refine wa_iconst (v := 0) (by decide) ?_
                refine wa_aload_n (i := 0) rfl rfl ?_
                refine wa_geti ck_12 fl_12_815 ly_84 ?_
                refine wa_rw (khi8_1) ?_
                refine wa_iast ly_85 (by ((try simp only [vp_in_iff, Int32.lt_iff_toInt_lt, Int32.le_iff_toInt_le, ← Int32.toInt_inj, Int32.reduceToInt, n_1, n_2, n_8, Int32.toNatClampNeg, Int64.lt_iff_toInt_lt, Int64.le_iff_toInt_le, ← Int64.toInt_inj, Int64.reduceToInt, Int32.toInt_toInt64, lg_cmp_ge, lg_cmp_le, lg_cmp_gt, lg_cmp_lt, lg_cmp_eq, Bool.false_eq_true, Bool.true_eq_false, reduceCtorEq, false_iff, true_iff, iff_true, iff_false, and_true, true_and, and_false, false_and, reduceIte, ite_true, ite_false, eq_self] at *)) <;> omega) (fun s14 hs14 => ?_)
                have Fs14 : Fm [85, 133, 135, 136, 137] [0, 119, 194] σ s14 := by rw [hs14]; exact Fm.si Fs6 rfl
                have Vs14 : 0 ≤ ((gi σ 84 32) : Int32).toInt ∧ ((gi σ 84 32) : Int32).toInt ≤ 9999 := by ((try simp only [vp_in_iff, Int32.lt_iff_toInt_lt, Int32.le_iff_toInt_le, ← Int32.toInt_inj, Int32.reduceToInt, n_1, n_2, n_8, Int32.toNatClampNeg, Int64.lt_iff_toInt_lt, Int64.le_iff_toInt_le, ← Int64.toInt_inj, Int64.reduceToInt, Int32.toInt_toInt64, lg_cmp_ge, lg_cmp_le, lg_cmp_gt, lg_cmp_lt, lg_cmp_eq, Bool.false_eq_true, Bool.true_eq_false, reduceCtorEq, false_iff, true_iff, iff_true, iff_false, and_true, true_and, and_false, false_and, reduceIte, ite_true, ite_false, eq_self] at *)) <;> omega
                refine wa_aload_n (i := 0) rfl rfl ?_
                refine wa_iconst (v := 1) (by decide) ?_
                refine wa_puti ck_12 fl_12_1299 ly_84 (fun s15 hs15 => ?_)
                have Fs15 : Fm [85, 133, 135, 136, 137] [0, 119, 194] σ s15 := by rw [hs15]; exact Fm.si Fs14 rfl
                refine wa_lconst (v := 0) (by decide) ?_
                refine wa_lstoreD (lv' := [(6, .long 0), (0, .ref 84), (1, .int a0), (2, .long l2), (4, .long l4)]) (by decide) rfl ?_
                refine wa_pick [1, 2, 3, 4, 0] rfl ?_
                have hi18 : ∀ (n9_194 : Nat) (l6 : Int64) (s16 : St), ((Fm [85, 133, 135, 136, 137] [0, 119, 194] σ s16) ∧ (gi s16 84 33 = gi σ 84 33) ∧ (gi s16 84 32 = gi σ 84 32) ∧ (gi s16 84 119 = gi s4 84 119) ∧ (AR ap_85 s16 85) ∧ (AR ap_135 s16 135) ∧ (AR ap_136 s16 136) ∧ (AR ap_137 s16 137) ∧ (WOK s16) ∧ (0 ≤ l6.toInt ∧ l6.toInt ≤ 1200) ∧ (1 ≤ (gi s16 84 194).toInt ∧ (gi s16 84 194).toInt ≤ 1 + 2 * l6.toInt) ∧ (True)) → (1300 - l6.toInt).toNat = n9_194 → WA G M_X12_bound (ZM G M_X12_bound d (fun r σ' => ∃ x : Int32, r = some (.int x) ∧ Fm [85, 133, 135, 136, 137] [0, 119, 194] σ σ' ∧ AR ap_85 σ' 85 ∧ AR ap_135 σ' 135 ∧ AR ap_136 σ' 136 ∧ AR ap_137 σ' 137 ∧ WOK σ' ∧ True)) B_X12_bound_194 [(0, .ref 84), (1, .int a0), (2, .long l2), (4, .long l4), (6, .long l6)] [] s16 := by
                  intro n9_194
                  induction n9_194 using Nat.strongRecOn with
                  | _ n9_194 ih17 =>
                    intro l6 s16 i9 m9_194
                    obtain ⟨Fs16, khi18_0, khi18_1, khi18_2, As16_85, As16_135, As16_136, As16_137, Ps16_WOK, jhi18_0, jhi18_1, -⟩ := i9
                    refine wa_lload rfl ?_
                    refine wa_ldc2 (v := (2)) (allW_in (kT_13 _ (List.mem_of_getElem? (i := 18) rfl)) rfl) ?_
                    refine wa_lload_n (i := 2) rfl rfl ?_
                    refine wa_lmul ?_
                    refine wa_topl (fun v19 hv19 => ?_)
                    have tv19 := m_l_remU hv19
                    clear hv19
                    refine wa_lcmp ?_
                    refine wa_top (fun v20 hv20 => ?_)
                    have tv20 := i_cmpT hv20
                    clear hv20
                    refine wa_if_gt o_X12_bound_222 (by decide) (fun h21 => ?_) (fun h21 => ?_)
                    · refine wa_iload_n (i := 1) rfl rfl ?_
                      refine wa_iconst (v := 4) (by decide) ?_
                      refine wa_idiv (by ((try simp only [vp_in_iff, Int32.lt_iff_toInt_lt, Int32.le_iff_toInt_le, ← Int32.toInt_inj, Int32.reduceToInt, n_1, n_2, n_8, Int32.toNatClampNeg, Int64.lt_iff_toInt_lt, Int64.le_iff_toInt_le, ← Int64.toInt_inj, Int64.reduceToInt, Int32.toInt_toInt64, lg_cmp_ge, lg_cmp_le, lg_cmp_gt, lg_cmp_lt, lg_cmp_eq, Bool.false_eq_true, Bool.true_eq_false, reduceCtorEq, false_iff, true_iff, iff_true, iff_false, and_true, true_and, and_false, false_and, reduceIte, ite_true, ite_false, eq_self] at *)) <;> omega) ?_
                      refine wa_top (fun v22 hv22 => ?_)
                      have tv22 := i_divU hv22
                      clear hv22
                      refine wa_aload_n (i := 0) rfl rfl ?_
                      refine wa_geti ck_12 fl_12_1299 ly_84 ?_
                      refine wa_icmp_lt o_X12_bound_234 (by decide) (fun h23 => ?_) (fun h23 => ?_)
                      · refine wa_aload_n (i := 0) rfl rfl ?_
                        refine wa_getr ck_12 fl_12_456 ly_84 rf_84_193 ?_
                        refine wa_iload_n (i := 1) rfl rfl ?_
                        refine wa_iconst (v := 4) (by decide) ?_
                        refine wa_idiv (by ((try simp only [vp_in_iff, Int32.lt_iff_toInt_lt, Int32.le_iff_toInt_le, ← Int32.toInt_inj, Int32.reduceToInt, n_1, n_2, n_8, Int32.toNatClampNeg, Int64.lt_iff_toInt_lt, Int64.le_iff_toInt_le, ← Int64.toInt_inj, Int64.reduceToInt, Int32.toInt_toInt64, lg_cmp_ge, lg_cmp_le, lg_cmp_gt, lg_cmp_lt, lg_cmp_eq, Bool.false_eq_true, Bool.true_eq_false, reduceCtorEq, false_iff, true_iff, iff_true, iff_false, and_true, true_and, and_false, false_and, reduceIte, ite_true, ite_false, eq_self] at *)) <;> omega) ?_
                        refine wa_top (fun v24 hv24 => ?_)
                        have tv24 := i_divU hv24
                        clear hv24
                        refine wa_iald ly_85 (by ((try simp only [vp_in_iff, Int32.lt_iff_toInt_lt, Int32.le_iff_toInt_le, ← Int32.toInt_inj, Int32.reduceToInt, n_1, n_2, n_8, Int32.toNatClampNeg, Int64.lt_iff_toInt_lt, Int64.le_iff_toInt_le, ← Int64.toInt_inj, Int64.reduceToInt, Int32.toInt_toInt64, lg_cmp_ge, lg_cmp_le, lg_cmp_gt, lg_cmp_lt, lg_cmp_eq, Bool.false_eq_true, Bool.true_eq_false, reduceCtorEq, false_iff, true_iff, iff_true, iff_false, and_true, true_and, and_false, false_and, reduceIte, ite_true, ite_false, eq_self] at *)) <;> omega) ?_
                        refine wa_top (fun v25 hv25 => ?_)
                        have rv25 : 0 ≤ v25.toInt ∧ v25.toInt ≤ 9999 := by rw [← hv25]; exact ar_at As16_85 _
                        clear hv25
                        refine wa_istoreD (lv' := [(6, .int v25), (0, .ref 84), (1, .int a0), (2, .long l2), (4, .long l4)]) (by decide) rfl ?_
                        refine wa_iconst (v := 0) (by decide) ?_
                        refine wa_istoreD (lv' := [(7, .int 0), (6, .int v25), (0, .ref 84), (1, .int a0), (2, .long l2), (4, .long l4)]) (by decide) rfl ?_
                        refine wa_pick [3, 1, 0] rfl ?_
                        have hi27 : ∀ (n9_247 : Nat) (l6 : Int32) (l7 : Int32), ((0 ≤ l7.toInt) ∧ (True)) → (2147483647 - l7.toInt).toNat = n9_247 → WA G M_X12_bound (ZM G M_X12_bound d (fun r σ' => ∃ x : Int32, r = some (.int x) ∧ Fm [85, 133, 135, 136, 137] [0, 119, 194] σ σ' ∧ AR ap_85 σ' 85 ∧ AR ap_135 σ' 135 ∧ AR ap_136 σ' 136 ∧ AR ap_137 σ' 137 ∧ WOK σ' ∧ True)) B_X12_bound_247 [(1, .int a0), (6, .int l6), (7, .int l7)] [] s16 := by
                          intro n9_247
                          induction n9_247 using Nat.strongRecOn with
                          | _ n9_247 ih26 =>
                            intro l6 l7  i9 m9_247
                            obtain ⟨jhi27_0, -⟩ := i9
                            have ul6 := Int32.toInt_lt l6
                            have wl6 := Int32.le_toInt l6
                            have ul7 := Int32.toInt_lt l7
                            have wl7 := Int32.le_toInt l7
                            refine wa_iload rfl ?_
                            refine wa_iload_n (i := 1) rfl rfl ?_
                            refine wa_iconst (v := 4) (by decide) ?_
                            refine wa_irem (by ((try simp only [vp_in_iff, Int32.lt_iff_toInt_lt, Int32.le_iff_toInt_le, ← Int32.toInt_inj, Int32.reduceToInt, n_1, n_2, n_8, Int32.toNatClampNeg, Int64.lt_iff_toInt_lt, Int64.le_iff_toInt_le, ← Int64.toInt_inj, Int64.reduceToInt, Int32.toInt_toInt64, lg_cmp_ge, lg_cmp_le, lg_cmp_gt, lg_cmp_lt, lg_cmp_eq, Bool.false_eq_true, Bool.true_eq_false, reduceCtorEq, false_iff, true_iff, iff_true, iff_false, and_true, true_and, and_false, false_and, reduceIte, ite_true, ite_false, eq_self] at *)) <;> omega) ?_
                            refine wa_top (fun v28 hv28 => ?_)
                            have tv28 := i_remU hv28
                            clear hv28
                            refine wa_icmp_ge o_X12_bound_268 (by decide) (fun h29 => ?_) (fun h29 => ?_)
                            · refine wa_iload rfl ?_
                              refine wa_bipush (v := 10) (by decide) ?_
                              refine wa_irem (by ((try simp only [vp_in_iff, Int32.lt_iff_toInt_lt, Int32.le_iff_toInt_le, ← Int32.toInt_inj, Int32.reduceToInt, n_1, n_2, n_8, Int32.toNatClampNeg, Int64.lt_iff_toInt_lt, Int64.le_iff_toInt_le, ← Int64.toInt_inj, Int64.reduceToInt, Int32.toInt_toInt64, lg_cmp_ge, lg_cmp_le, lg_cmp_gt, lg_cmp_lt, lg_cmp_eq, Bool.false_eq_true, Bool.true_eq_false, reduceCtorEq, false_iff, true_iff, iff_true, iff_false, and_true, true_and, and_false, false_and, reduceIte, ite_true, ite_false, eq_self] at *)) <;> omega) ?_
                              refine wa_top (fun v30 hv30 => ?_)
                              have tv30 := i_remU hv30
                              clear hv30
                              refine wa_ireturn rfl rfl ?_
                              exact ⟨_, rfl, Fs16, As16_85, As16_135, As16_136, As16_137, Ps16_WOK, trivial⟩
                            · have mh29 := nle_mx h29
                              refine wa_iload rfl ?_
                              refine wa_bipush (v := 10) (by decide) ?_
                              refine wa_idiv (by ((try simp only [vp_in_iff, Int32.lt_iff_toInt_lt, Int32.le_iff_toInt_le, ← Int32.toInt_inj, Int32.reduceToInt, n_1, n_2, n_8, Int32.toNatClampNeg, Int64.lt_iff_toInt_lt, Int64.le_iff_toInt_le, ← Int64.toInt_inj, Int64.reduceToInt, Int32.toInt_toInt64, lg_cmp_ge, lg_cmp_le, lg_cmp_gt, lg_cmp_lt, lg_cmp_eq, Bool.false_eq_true, Bool.true_eq_false, reduceCtorEq, false_iff, true_iff, iff_true, iff_false, and_true, true_and, and_false, false_and, reduceIte, ite_true, ite_false, eq_self] at *)) <;> omega) ?_
                              refine wa_top (fun v31 hv31 => ?_)
                              have tv31 := i_divU hv31
                              clear hv31
                              refine wa_istoreD (lv' := [(6, .int v31), (1, .int a0), (7, .int l7)]) (by decide) rfl ?_
                              refine wa_iinc (v := (1)) (lv' := fun y32 => [(7, .int y32), (6, .int v31), (1, .int a0)]) (by decide) rfl (by decide) (fun _ => rfl) (fun y32 hy32 => ?_)
                              have ty32 := i_addT hy32.symm
                              clear hy32
                              refine wa_goto o_X12_bound_247 (by decide) ?_
                              refine wa_pick [2, 1, 0] rfl ?_
                              exact ih26 _ (by ((try simp only [vp_in_iff, Int32.lt_iff_toInt_lt, Int32.le_iff_toInt_le, ← Int32.toInt_inj, Int32.reduceToInt, n_1, n_2, n_8, Int32.toNatClampNeg, Int64.lt_iff_toInt_lt, Int64.le_iff_toInt_le, ← Int64.toInt_inj, Int64.reduceToInt, Int32.toInt_toInt64, lg_cmp_ge, lg_cmp_le, lg_cmp_gt, lg_cmp_lt, lg_cmp_eq, Bool.false_eq_true, Bool.true_eq_false, reduceCtorEq, false_iff, true_iff, iff_true, iff_false, and_true, true_and, and_false, false_and, reduceIte, ite_true, ite_false, eq_self] at *)) <;> omega) _ _ ⟨(by ((try simp only [vp_in_iff, Int32.lt_iff_toInt_lt, Int32.le_iff_toInt_le, ← Int32.toInt_inj, Int32.reduceToInt, n_1, n_2, n_8, Int32.toNatClampNeg, Int64.lt_iff_toInt_lt, Int64.le_iff_toInt_le, ← Int64.toInt_inj, Int64.reduceToInt, Int32.toInt_toInt64, lg_cmp_ge, lg_cmp_le, lg_cmp_gt, lg_cmp_lt, lg_cmp_eq, Bool.false_eq_true, Bool.true_eq_false, reduceCtorEq, false_iff, true_iff, iff_true, iff_false, and_true, true_and, and_false, false_and, reduceIte, ite_true, ite_false, eq_self] at *)) <;> omega), trivial⟩ rfl
                        exact hi27 _ _ _ ⟨(by ((try simp only [vp_in_iff, Int32.lt_iff_toInt_lt, Int32.le_iff_toInt_le, ← Int32.toInt_inj, Int32.reduceToInt, n_1, n_2, n_8, Int32.toNatClampNeg, Int64.lt_iff_toInt_lt, Int64.le_iff_toInt_le, ← Int64.toInt_inj, Int64.reduceToInt, Int32.toInt_toInt64, lg_cmp_ge, lg_cmp_le, lg_cmp_gt, lg_cmp_lt, lg_cmp_eq, Bool.false_eq_true, Bool.true_eq_false, reduceCtorEq, false_iff, true_iff, iff_true, iff_false, and_true, true_and, and_false, false_and, reduceIte, ite_true, ite_false, eq_self] at *)) <;> omega), trivial⟩ rfl
                      · refine wa_iconst (v := 0) (by decide) ?_
                        refine wa_ireturn rfl rfl ?_
                        exact ⟨_, rfl, Fs16, As16_85, As16_135, As16_136, As16_137, Ps16_WOK, trivial⟩
                    · have mb := mul_bd2 (a := (l2).toInt) (b := (l4).toInt) (m := 576) (n := 99999) (by ((try simp only [vp_in_iff, Int32.lt_iff_toInt_lt, Int32.le_iff_toInt_le, ← Int32.toInt_inj, Int32.reduceToInt, n_1, n_2, n_8, Int32.toNatClampNeg, Int64.lt_iff_toInt_lt, Int64.le_iff_toInt_le, ← Int64.toInt_inj, Int64.reduceToInt, Int32.toInt_toInt64, lg_cmp_ge, lg_cmp_le, lg_cmp_gt, lg_cmp_lt, lg_cmp_eq, Bool.false_eq_true, Bool.true_eq_false, reduceCtorEq, false_iff, true_iff, iff_true, iff_false, and_true, true_and, and_false, false_and, reduceIte, ite_true, ite_false, eq_self] at *)) <;> omega) (by ((try simp only [vp_in_iff, Int32.lt_iff_toInt_lt, Int32.le_iff_toInt_le, ← Int32.toInt_inj, Int32.reduceToInt, n_1, n_2, n_8, Int32.toNatClampNeg, Int64.lt_iff_toInt_lt, Int64.le_iff_toInt_le, ← Int64.toInt_inj, Int64.reduceToInt, Int32.toInt_toInt64, lg_cmp_ge, lg_cmp_le, lg_cmp_gt, lg_cmp_lt, lg_cmp_eq, Bool.false_eq_true, Bool.true_eq_false, reduceCtorEq, false_iff, true_iff, iff_true, iff_false, and_true, true_and, and_false, false_and, reduceIte, ite_true, ite_false, eq_self] at *)) <;> omega) (by ((try simp only [vp_in_iff, Int32.lt_iff_toInt_lt, Int32.le_iff_toInt_le, ← Int32.toInt_inj, Int32.reduceToInt, n_1, n_2, n_8, Int32.toNatClampNeg, Int64.lt_iff_toInt_lt, Int64.le_iff_toInt_le, ← Int64.toInt_inj, Int64.reduceToInt, Int32.toInt_toInt64, lg_cmp_ge, lg_cmp_le, lg_cmp_gt, lg_cmp_lt, lg_cmp_eq, Bool.false_eq_true, Bool.true_eq_false, reduceCtorEq, false_iff, true_iff, iff_true, iff_false, and_true, true_and, and_false, false_and, reduceIte, ite_true, ite_false, eq_self] at *)) <;> omega) (by ((try simp only [vp_in_iff, Int32.lt_iff_toInt_lt, Int32.le_iff_toInt_le, ← Int32.toInt_inj, Int32.reduceToInt, n_1, n_2, n_8, Int32.toNatClampNeg, Int64.lt_iff_toInt_lt, Int64.le_iff_toInt_le, ← Int64.toInt_inj, Int64.reduceToInt, Int32.toInt_toInt64, lg_cmp_ge, lg_cmp_le, lg_cmp_gt, lg_cmp_lt, lg_cmp_eq, Bool.false_eq_true, Bool.true_eq_false, reduceCtorEq, false_iff, true_iff, iff_true, iff_false, and_true, true_and, and_false, false_and, reduceIte, ite_true, ite_false, eq_self] at *)) <;> omega)
                      refine wa_aload_n (i := 0) rfl rfl ?_
                      refine wa_lload_n (i := 2) rfl rfl ?_
                      refine wa_lload rfl ?_
                      refine wa_lmul ?_
                      refine wa_topl (fun v33 hv33 => ?_)
                      have tv33 := m_l_remU hv33
                      clear hv33
                      refine wa_Vv (d9 := d - 1) [.long _] [] (sp_X12_times G (d := d - 1) (by omega) s16 _ (by ((try simp only [vp_in_iff, Int32.lt_iff_toInt_lt, Int32.le_iff_toInt_le, ← Int32.toInt_inj, Int32.reduceToInt, n_1, n_2, n_8, Int32.toNatClampNeg, Int64.lt_iff_toInt_lt, Int64.le_iff_toInt_le, ← Int64.toInt_inj, Int64.reduceToInt, Int32.toInt_toInt64, lg_cmp_ge, lg_cmp_le, lg_cmp_gt, lg_cmp_lt, lg_cmp_eq, Bool.false_eq_true, Bool.true_eq_false, reduceCtorEq, false_iff, true_iff, iff_true, iff_false, and_true, true_and, and_false, false_and, reduceIte, ite_true, ite_false, eq_self] at *)) <;> omega) (by first | assumption | exact Or.inl rfl | exact Or.inr rfl | (((try simp only [vp_in_iff, Int32.lt_iff_toInt_lt, Int32.le_iff_toInt_le, ← Int32.toInt_inj, Int32.reduceToInt, n_1, n_2, n_8, Int32.toNatClampNeg, Int64.lt_iff_toInt_lt, Int64.le_iff_toInt_le, ← Int64.toInt_inj, Int64.reduceToInt, Int32.toInt_toInt64, lg_cmp_ge, lg_cmp_le, lg_cmp_gt, lg_cmp_lt, lg_cmp_eq, Bool.false_eq_true, Bool.true_eq_false, reduceCtorEq, false_iff, true_iff, iff_true, iff_false, and_true, true_and, and_false, false_and, reduceIte, ite_true, ite_false, eq_self] at *)) <;> omega)) As16_85) (rfl) rfl rfl (zr (by omega)) mk_X12_times ly_84 ml_12_1304 (Nat.le_of_ble_eq_true rfl) (fun s34 hs34 => ?_)
                      obtain ⟨fs34, cx35_1, As34_85, -⟩ := hs34
                      have Fs34 : Fm [85, 133, 135, 136, 137] [0, 119, 194] σ s34 := Fm.tr Fs16 (Fm.wd fs34 rfl rfl)
                      refine wa_lload rfl ?_
                      refine wa_lconst (v := 1) (by decide) ?_
                      refine wa_ladd ?_
                      refine wa_topl (fun v36 hv36 => ?_)
                      have tv36 := a_l_remU hv36
                      clear hv36
                      refine wa_lstoreD (lv' := [(6, .long v36), (0, .ref 84), (1, .int a0), (2, .long l2), (4, .long l4)]) (by decide) rfl ?_
                      refine wa_goto o_X12_bound_194 (by decide) ?_
                      refine wa_pick [1, 2, 3, 4, 0] rfl ?_
                      exact ih17 _ (by ((try simp only [vp_in_iff, Int32.lt_iff_toInt_lt, Int32.le_iff_toInt_le, ← Int32.toInt_inj, Int32.reduceToInt, n_1, n_2, n_8, Int32.toNatClampNeg, Int64.lt_iff_toInt_lt, Int64.le_iff_toInt_le, ← Int64.toInt_inj, Int64.reduceToInt, Int32.toInt_toInt64, lg_cmp_ge, lg_cmp_le, lg_cmp_gt, lg_cmp_lt, lg_cmp_eq, Bool.false_eq_true, Bool.true_eq_false, reduceCtorEq, false_iff, true_iff, iff_true, iff_false, and_true, true_and, and_false, false_and, reduceIte, ite_true, ite_false, eq_self] at *)) <;> omega) _ _ ⟨Fs34, ((Fm.gi fs34 (q := 84) (k := 33) rfl rfl).trans (khi18_0)), ((Fm.gi fs34 (q := 84) (k := 32) rfl rfl).trans (khi18_1)), ((Fm.gi fs34 (q := 84) (k := 119) rfl rfl).trans (khi18_2)), As34_85, (ar_fm fs34 rfl rfl As16_135), (ar_fm fs34 rfl rfl As16_136), (ar_fm fs34 rfl rfl As16_137), (WOK_of (fun k => Fm.gi fs34 (q := 135) (k := k) rfl rfl) (fun k => Fm.gi fs34 (q := 136) (k := k) rfl rfl) Ps16_WOK), (by ((try simp only [vp_in_iff, Int32.lt_iff_toInt_lt, Int32.le_iff_toInt_le, ← Int32.toInt_inj, Int32.reduceToInt, n_1, n_2, n_8, Int32.toNatClampNeg, Int64.lt_iff_toInt_lt, Int64.le_iff_toInt_le, ← Int64.toInt_inj, Int64.reduceToInt, Int32.toInt_toInt64, lg_cmp_ge, lg_cmp_le, lg_cmp_gt, lg_cmp_lt, lg_cmp_eq, Bool.false_eq_true, Bool.true_eq_false, reduceCtorEq, false_iff, true_iff, iff_true, iff_false, and_true, true_and, and_false, false_and, reduceIte, ite_true, ite_false, eq_self] at *)) <;> omega), (by first | assumption | (((try simp only [vp_in_iff, Int32.lt_iff_toInt_lt, Int32.le_iff_toInt_le, ← Int32.toInt_inj, Int32.reduceToInt, n_1, n_2, n_8, Int32.toNatClampNeg, Int64.lt_iff_toInt_lt, Int64.le_iff_toInt_le, ← Int64.toInt_inj, Int64.reduceToInt, Int32.toInt_toInt64, lg_cmp_ge, lg_cmp_le, lg_cmp_gt, lg_cmp_lt, lg_cmp_eq, Bool.false_eq_true, Bool.true_eq_false, reduceCtorEq, false_iff, true_iff, iff_true, iff_false, and_true, true_and, and_false, false_and, reduceIte, ite_true, ite_false, eq_self] at *)) <;> omega)), trivial⟩ rfl
                exact hi18 _ _ _ ⟨Fs15, ((nxk_gi_si hs15 (by decide)).trans ((nxq_gi_si hs14 (by decide)).trans (khi8_0))), ((nxk_gi_si hs15 (by decide)).trans ((nxq_gi_si hs14 (by decide)).trans (khi8_1))), ((nxk_gi_si hs15 (by decide)).trans ((nxq_gi_si hs14 (by decide)).trans (khi8_2))), (ar_ni hs15 (by decide) (ar_w hs14 Vs14 As6_85)), (ar_ni hs15 (by decide) (ar_ni hs14 (by decide) As6_135)), (ar_ni hs15 (by decide) (ar_ni hs14 (by decide) As6_136)), (ar_ni hs15 (by decide) (ar_ni hs14 (by decide) As6_137)), (WOK_of (fun k => (nxq_gi_si hs15 (by decide)).trans (nxq_gi_si hs14 (by decide))) (fun k => (nxq_gi_si hs15 (by decide)).trans (nxq_gi_si hs14 (by decide))) Ps6_WOK), (by ((try simp only [vp_in_iff, Int32.lt_iff_toInt_lt, Int32.le_iff_toInt_le, ← Int32.toInt_inj, Int32.reduceToInt, n_1, n_2, n_8, Int32.toNatClampNeg, Int64.lt_iff_toInt_lt, Int64.le_iff_toInt_le, ← Int64.toInt_inj, Int64.reduceToInt, Int32.toInt_toInt64, lg_cmp_ge, lg_cmp_le, lg_cmp_gt, lg_cmp_lt, lg_cmp_eq, Bool.false_eq_true, Bool.true_eq_false, reduceCtorEq, false_iff, true_iff, iff_true, iff_false, and_true, true_and, and_false, false_and, reduceIte, ite_true, ite_false, eq_self] at *)) <;> omega), (by rw [nxe_gi_si hs15]; first | assumption | (((try simp only [vp_in_iff, Int32.lt_iff_toInt_lt, Int32.le_iff_toInt_le, ← Int32.toInt_inj, Int32.reduceToInt, n_1, n_2, n_8, Int32.toNatClampNeg, Int64.lt_iff_toInt_lt, Int64.le_iff_toInt_le, ← Int64.toInt_inj, Int64.reduceToInt, Int32.toInt_toInt64, lg_cmp_ge, lg_cmp_le, lg_cmp_gt, lg_cmp_lt, lg_cmp_eq, Bool.false_eq_true, Bool.true_eq_false, reduceCtorEq, false_iff, true_iff, iff_true, iff_false, and_true, true_and, and_false, false_and, reduceIte, ite_true, ite_false, eq_self] at *)) <;> omega)), trivial⟩ rfl
              · refine wa_iconst (v := 0) (by decide) ?_
                refine wa_ireturn rfl rfl ?_
                exact ⟨_, rfl, Fs6, As6_85, As6_135, As6_136, As6_137, Ps6_WOK, trivial⟩
        · have mh9 := nle_mx h9
          refine wa_aload_n (i := 0) rfl rfl ?_
          refine wa_getr ck_12 fl_12_298 ly_84 rf_84_118 ?_
          refine wa_iload rfl ?_
          refine wa_iald ly_135 (by ((try simp only [vp_in_iff, Int32.lt_iff_toInt_lt, Int32.le_iff_toInt_le, ← Int32.toInt_inj, Int32.reduceToInt, n_1, n_2, n_8, Int32.toNatClampNeg, Int64.lt_iff_toInt_lt, Int64.le_iff_toInt_le, ← Int64.toInt_inj, Int64.reduceToInt, Int32.toInt_toInt64, lg_cmp_ge, lg_cmp_le, lg_cmp_gt, lg_cmp_lt, lg_cmp_eq, Bool.false_eq_true, Bool.true_eq_false, reduceCtorEq, false_iff, true_iff, iff_true, iff_false, and_true, true_and, and_false, false_and, reduceIte, ite_true, ite_false, eq_self] at *)) <;> omega) ?_
          refine wa_top (fun v37 hv37 => ?_)
          have rv37 : 0 ≤ v37.toInt ∧ v37.toInt ≤ 12 := by rw [← hv37]; exact ar_at As6_135 _
          clear hv37
          refine wa_if_ne o_X12_bound_151 (by decide) (fun h38 => ?_) (fun h38 => ?_)
          · refine wa_iinc (v := (1)) (lv' := fun y39 => [(6, .int y39), (0, .ref 84), (1, .int a0), (2, .long l2), (4, .long l4)]) (by decide) rfl (by decide) (fun _ => rfl) (fun y39 hy39 => ?_)
            have ty39 := i_addT hy39.symm
            clear hy39
            refine wa_goto o_X12_bound_22 (by decide) ?_
            refine wa_pick [1, 2, 3, 4, 0] rfl ?_
            exact ih7 _ (by ((try simp only [vp_in_iff, Int32.lt_iff_toInt_lt, Int32.le_iff_toInt_le, ← Int32.toInt_inj, Int32.reduceToInt, n_1, n_2, n_8, Int32.toNatClampNeg, Int64.lt_iff_toInt_lt, Int64.le_iff_toInt_le, ← Int64.toInt_inj, Int64.reduceToInt, Int32.toInt_toInt64, lg_cmp_ge, lg_cmp_le, lg_cmp_gt, lg_cmp_lt, lg_cmp_eq, Bool.false_eq_true, Bool.true_eq_false, reduceCtorEq, false_iff, true_iff, iff_true, iff_false, and_true, true_and, and_false, false_and, reduceIte, ite_true, ite_false, eq_self] at *)) <;> omega) _ _ _ _ ⟨Fs6, (khi8_0), (khi8_1), (khi8_2), (khi8_3), As6_85, As6_135, As6_136, As6_137, Ps6_WOK, (by ((try simp only [vp_in_iff, Int32.lt_iff_toInt_lt, Int32.le_iff_toInt_le, ← Int32.toInt_inj, Int32.reduceToInt, n_1, n_2, n_8, Int32.toNatClampNeg, Int64.lt_iff_toInt_lt, Int64.le_iff_toInt_le, ← Int64.toInt_inj, Int64.reduceToInt, Int32.toInt_toInt64, lg_cmp_ge, lg_cmp_le, lg_cmp_gt, lg_cmp_lt, lg_cmp_eq, Bool.false_eq_true, Bool.true_eq_false, reduceCtorEq, false_iff, true_iff, iff_true, iff_false, and_true, true_and, and_false, false_and, reduceIte, ite_true, ite_false, eq_self] at *)) <;> omega), (by ((try simp only [vp_in_iff, Int32.lt_iff_toInt_lt, Int32.le_iff_toInt_le, ← Int32.toInt_inj, Int32.reduceToInt, n_1, n_2, n_8, Int32.toNatClampNeg, Int64.lt_iff_toInt_lt, Int64.le_iff_toInt_le, ← Int64.toInt_inj, Int64.reduceToInt, Int32.toInt_toInt64, lg_cmp_ge, lg_cmp_le, lg_cmp_gt, lg_cmp_lt, lg_cmp_eq, Bool.false_eq_true, Bool.true_eq_false, reduceCtorEq, false_iff, true_iff, iff_true, iff_false, and_true, true_and, and_false, false_and, reduceIte, ite_true, ite_false, eq_self] at *)) <;> omega), (by ((try simp only [vp_in_iff, Int32.lt_iff_toInt_lt, Int32.le_iff_toInt_le, ← Int32.toInt_inj, Int32.reduceToInt, n_1, n_2, n_8, Int32.toNatClampNeg, Int64.lt_iff_toInt_lt, Int64.le_iff_toInt_le, ← Int64.toInt_inj, Int64.reduceToInt, Int32.toInt_toInt64, lg_cmp_ge, lg_cmp_le, lg_cmp_gt, lg_cmp_lt, lg_cmp_eq, Bool.false_eq_true, Bool.true_eq_false, reduceCtorEq, false_iff, true_iff, iff_true, iff_false, and_true, true_and, and_false, false_and, reduceIte, ite_true, ite_false, eq_self] at *)) <;> omega), trivial⟩ rfl
          · refine wa_lload_n (i := 2) rfl rfl ?_
            refine wa_lconst (v := 1) (by decide) ?_
            refine wa_ladd ?_
            refine wa_topl (fun v40 hv40 => ?_)
            have tv40 := a_l_remU hv40
            clear hv40
            refine wa_lstore_nD (lv' := [(2, .long v40), (0, .ref 84), (1, .int a0), (4, .long l4), (6, .int l6)]) (i := 2) rfl (by decide) rfl ?_
            refine wa_lload rfl ?_
            refine wa_aload_n (i := 0) rfl rfl ?_
            refine wa_getr ck_12 fl_12_295 ly_84 rf_84_117 ?_
            refine wa_iload rfl ?_
            refine wa_iald ly_136 (by ((try simp only [vp_in_iff, Int32.lt_iff_toInt_lt, Int32.le_iff_toInt_le, ← Int32.toInt_inj, Int32.reduceToInt, n_1, n_2, n_8, Int32.toNatClampNeg, Int64.lt_iff_toInt_lt, Int64.le_iff_toInt_le, ← Int64.toInt_inj, Int64.reduceToInt, Int32.toInt_toInt64, lg_cmp_ge, lg_cmp_le, lg_cmp_gt, lg_cmp_lt, lg_cmp_eq, Bool.false_eq_true, Bool.true_eq_false, reduceCtorEq, false_iff, true_iff, iff_true, iff_false, and_true, true_and, and_false, false_and, reduceIte, ite_true, ite_false, eq_self] at *)) <;> omega) ?_
            refine wa_top (fun v41 hv41 => ?_)
            have rv41 : -99999 ≤ v41.toInt ∧ v41.toInt ≤ 99999 := by rw [← hv41]; exact ar_at As6_136 _
            clear hv41
            refine wa_if_ge o_X12_bound_70 (by decide) (fun h42 => ?_) (fun h42 => ?_)
            · refine wa_aload_n (i := 0) rfl rfl ?_
              refine wa_getr ck_12 fl_12_295 ly_84 rf_84_117 ?_
              refine wa_iload rfl ?_
              refine wa_iald ly_136 (by ((try simp only [vp_in_iff, Int32.lt_iff_toInt_lt, Int32.le_iff_toInt_le, ← Int32.toInt_inj, Int32.reduceToInt, n_1, n_2, n_8, Int32.toNatClampNeg, Int64.lt_iff_toInt_lt, Int64.le_iff_toInt_le, ← Int64.toInt_inj, Int64.reduceToInt, Int32.toInt_toInt64, lg_cmp_ge, lg_cmp_le, lg_cmp_gt, lg_cmp_lt, lg_cmp_eq, Bool.false_eq_true, Bool.true_eq_false, reduceCtorEq, false_iff, true_iff, iff_true, iff_false, and_true, true_and, and_false, false_and, reduceIte, ite_true, ite_false, eq_self] at *)) <;> omega) ?_
              refine wa_top (fun v43 hv43 => ?_)
              have rv43 : -99999 ≤ v43.toInt ∧ v43.toInt ≤ 99999 := by rw [← hv43]; exact ar_at As6_136 _
              clear hv43
              refine wa_i2l ?_
              refine wa_Sl (d9 := d - 1) [.long _, .long _] [] (sp_X12_max G (d := d - 1) (by omega) s6 _ _) (rfl) rfl rfl (zr (by omega)) mk_X12_max ml_12_1009 (Nat.le_of_ble_eq_true rfl) (fun x45 s44 hs44 => ?_)
              obtain ⟨zs44, cx45_1, -⟩ := pL hs44
              subst zs44
              refine wa_lstoreD (lv' := [(4, .long x45), (2, .long v40), (0, .ref 84), (1, .int a0), (6, .int l6)]) (by decide) rfl ?_
              refine wa_iconst (v := 0) (by decide) ?_
              refine wa_istoreD (lv' := [(7, .int 0), (4, .long x45), (2, .long v40), (0, .ref 84), (1, .int a0), (6, .int l6)]) (by decide) rfl ?_
              refine wa_pick [3, 4, 2, 1, 5, 0] rfl ?_
              have hi48 : ∀ (n9_86 : Nat) (l4 : Int64) (l7 : Int32) (s46 : St), ((Fm [85, 133, 135, 136, 137] [0, 119, 194] σ s46) ∧ (gi s46 84 33 = gi σ 84 33) ∧ (gi s46 84 32 = gi σ 84 32) ∧ (gi s46 84 119 = gi s4 84 119) ∧ (gi s46 84 194 = gi σ 84 194) ∧ (AR ap_85 s46 85) ∧ (AR ap_135 s46 135) ∧ (AR ap_136 s46 136) ∧ (AR ap_137 s46 137) ∧ (WOK s46) ∧ (0 ≤ l7.toInt) ∧ (1 ≤ l4.toInt ∧ l4.toInt ≤ 99999) ∧ (True)) → (2147483647 - l7.toInt).toNat = n9_86 → WA G M_X12_bound (ZM G M_X12_bound d (fun r σ' => ∃ x : Int32, r = some (.int x) ∧ Fm [85, 133, 135, 136, 137] [0, 119, 194] σ σ' ∧ AR ap_85 σ' 85 ∧ AR ap_135 σ' 135 ∧ AR ap_136 σ' 136 ∧ AR ap_137 σ' 137 ∧ WOK σ' ∧ True)) B_X12_bound_86 [(0, .ref 84), (1, .int a0), (2, .long v40), (4, .long l4), (6, .int l6), (7, .int l7)] [] s46 := by
                intro n9_86
                induction n9_86 using Nat.strongRecOn with
                | _ n9_86 ih47 =>
                  intro l4 l7 s46 i9 m9_86
                  obtain ⟨Fs46, khi48_0, khi48_1, khi48_2, khi48_3, As46_85, As46_135, As46_136, As46_137, Ps46_WOK, jhi48_0, jhi48_1, -⟩ := i9
                  have ul7 := Int32.toInt_lt l7
                  have wl7 := Int32.le_toInt l7
                  refine wa_iload rfl ?_
                  refine wa_iconst (v := 4) (by decide) ?_
                  refine wa_icmp_ge o_X12_bound_151 (by decide) (fun h49 => ?_) (fun h49 => ?_)
                  · refine wa_iinc (v := (1)) (lv' := fun y50 => [(6, .int y50), (0, .ref 84), (1, .int a0), (2, .long v40), (4, .long l4), (7, .int l7)]) (by decide) rfl (by decide) (fun _ => rfl) (fun y50 hy50 => ?_)
                    have ty50 := i_addT hy50.symm
                    clear hy50
                    refine wa_goto o_X12_bound_22 (by decide) ?_
                    refine wa_pick [1, 2, 3, 4, 0] rfl ?_
                    exact ih7 _ (by ((try simp only [vp_in_iff, Int32.lt_iff_toInt_lt, Int32.le_iff_toInt_le, ← Int32.toInt_inj, Int32.reduceToInt, n_1, n_2, n_8, Int32.toNatClampNeg, Int64.lt_iff_toInt_lt, Int64.le_iff_toInt_le, ← Int64.toInt_inj, Int64.reduceToInt, Int32.toInt_toInt64, lg_cmp_ge, lg_cmp_le, lg_cmp_gt, lg_cmp_lt, lg_cmp_eq, Bool.false_eq_true, Bool.true_eq_false, reduceCtorEq, false_iff, true_iff, iff_true, iff_false, and_true, true_and, and_false, false_and, reduceIte, ite_true, ite_false, eq_self] at *)) <;> omega) _ _ _ _ ⟨Fs46, (khi48_0), (khi48_1), (khi48_2), (khi48_3), As46_85, As46_135, As46_136, As46_137, Ps46_WOK, (by ((try simp only [vp_in_iff, Int32.lt_iff_toInt_lt, Int32.le_iff_toInt_le, ← Int32.toInt_inj, Int32.reduceToInt, n_1, n_2, n_8, Int32.toNatClampNeg, Int64.lt_iff_toInt_lt, Int64.le_iff_toInt_le, ← Int64.toInt_inj, Int64.reduceToInt, Int32.toInt_toInt64, lg_cmp_ge, lg_cmp_le, lg_cmp_gt, lg_cmp_lt, lg_cmp_eq, Bool.false_eq_true, Bool.true_eq_false, reduceCtorEq, false_iff, true_iff, iff_true, iff_false, and_true, true_and, and_false, false_and, reduceIte, ite_true, ite_false, eq_self] at *)) <;> omega), (by ((try simp only [vp_in_iff, Int32.lt_iff_toInt_lt, Int32.le_iff_toInt_le, ← Int32.toInt_inj, Int32.reduceToInt, n_1, n_2, n_8, Int32.toNatClampNeg, Int64.lt_iff_toInt_lt, Int64.le_iff_toInt_le, ← Int64.toInt_inj, Int64.reduceToInt, Int32.toInt_toInt64, lg_cmp_ge, lg_cmp_le, lg_cmp_gt, lg_cmp_lt, lg_cmp_eq, Bool.false_eq_true, Bool.true_eq_false, reduceCtorEq, false_iff, true_iff, iff_true, iff_false, and_true, true_and, and_false, false_and, reduceIte, ite_true, ite_false, eq_self] at *)) <;> omega), (by ((try simp only [vp_in_iff, Int32.lt_iff_toInt_lt, Int32.le_iff_toInt_le, ← Int32.toInt_inj, Int32.reduceToInt, n_1, n_2, n_8, Int32.toNatClampNeg, Int64.lt_iff_toInt_lt, Int64.le_iff_toInt_le, ← Int64.toInt_inj, Int64.reduceToInt, Int32.toInt_toInt64, lg_cmp_ge, lg_cmp_le, lg_cmp_gt, lg_cmp_lt, lg_cmp_eq, Bool.false_eq_true, Bool.true_eq_false, reduceCtorEq, false_iff, true_iff, iff_true, iff_false, and_true, true_and, and_false, false_and, reduceIte, ite_true, ite_false, eq_self] at *)) <;> omega), trivial⟩ rfl
                  · have mh49 := nle_mx h49
                    refine wa_lload rfl ?_
                    refine wa_aload_n (i := 0) rfl rfl ?_
                    refine wa_getr ck_12 fl_12_292 ly_84 rf_84_116 ?_
                    refine wa_iconst (v := 4) (by decide) ?_
                    refine wa_iload rfl ?_
                    refine wa_imul ?_
                    refine wa_top (fun v51 hv51 => ?_)
                    have tv51 := i_mulT hv51
                    clear hv51
                    refine wa_iload rfl ?_
                    refine wa_iadd ?_
                    refine wa_top (fun v52 hv52 => ?_)
                    have tv52 := i_addT hv52
                    clear hv52
                    refine wa_iald ly_137 (by ((try simp only [vp_in_iff, Int32.lt_iff_toInt_lt, Int32.le_iff_toInt_le, ← Int32.toInt_inj, Int32.reduceToInt, n_1, n_2, n_8, Int32.toNatClampNeg, Int64.lt_iff_toInt_lt, Int64.le_iff_toInt_le, ← Int64.toInt_inj, Int64.reduceToInt, Int32.toInt_toInt64, lg_cmp_ge, lg_cmp_le, lg_cmp_gt, lg_cmp_lt, lg_cmp_eq, Bool.false_eq_true, Bool.true_eq_false, reduceCtorEq, false_iff, true_iff, iff_true, iff_false, and_true, true_and, and_false, false_and, reduceIte, ite_true, ite_false, eq_self] at *)) <;> omega) ?_
                    refine wa_top (fun v53 hv53 => ?_)
                    have rv53 : -20 ≤ v53.toInt ∧ v53.toInt ≤ 20 := by rw [← hv53]; exact ar_at As46_137 _
                    clear hv53
                    refine wa_if_ge o_X12_bound_127 (by decide) (fun h54 => ?_) (fun h54 => ?_)
                    · refine wa_aload_n (i := 0) rfl rfl ?_
                      refine wa_getr ck_12 fl_12_292 ly_84 rf_84_116 ?_
                      refine wa_iconst (v := 4) (by decide) ?_
                      refine wa_iload rfl ?_
                      refine wa_imul ?_
                      refine wa_top (fun v55 hv55 => ?_)
                      have tv55 := i_mulT hv55
                      clear hv55
                      refine wa_iload rfl ?_
                      refine wa_iadd ?_
                      refine wa_top (fun v56 hv56 => ?_)
                      have tv56 := i_addT hv56
                      clear hv56
                      refine wa_iald ly_137 (by ((try simp only [vp_in_iff, Int32.lt_iff_toInt_lt, Int32.le_iff_toInt_le, ← Int32.toInt_inj, Int32.reduceToInt, n_1, n_2, n_8, Int32.toNatClampNeg, Int64.lt_iff_toInt_lt, Int64.le_iff_toInt_le, ← Int64.toInt_inj, Int64.reduceToInt, Int32.toInt_toInt64, lg_cmp_ge, lg_cmp_le, lg_cmp_gt, lg_cmp_lt, lg_cmp_eq, Bool.false_eq_true, Bool.true_eq_false, reduceCtorEq, false_iff, true_iff, iff_true, iff_false, and_true, true_and, and_false, false_and, reduceIte, ite_true, ite_false, eq_self] at *)) <;> omega) ?_
                      refine wa_top (fun v57 hv57 => ?_)
                      have rv57 : -20 ≤ v57.toInt ∧ v57.toInt ≤ 20 := by rw [← hv57]; exact ar_at As46_137 _
                      clear hv57
                      refine wa_i2l ?_
                      refine wa_Sl (d9 := d - 1) [.long _, .long _] [] (sp_X12_max G (d := d - 1) (by omega) s46 _ _) (rfl) rfl rfl (zr (by omega)) mk_X12_max ml_12_1009 (Nat.le_of_ble_eq_true rfl) (fun x59 s58 hs58 => ?_)
                      obtain ⟨zs58, cx59_1, -⟩ := pL hs58
                      subst zs58
                      refine wa_lstoreD (lv' := [(4, .long x59), (0, .ref 84), (1, .int a0), (2, .long v40), (6, .int l6), (7, .int l7)]) (by decide) rfl ?_
                      refine wa_iinc (v := (1)) (lv' := fun y60 => [(7, .int y60), (4, .long x59), (0, .ref 84), (1, .int a0), (2, .long v40), (6, .int l6)]) (by decide) rfl (by decide) (fun _ => rfl) (fun y60 hy60 => ?_)
                      have ty60 := i_addT hy60.symm
                      clear hy60
                      refine wa_goto o_X12_bound_86 (by decide) ?_
                      refine wa_pick [2, 3, 4, 1, 5, 0] rfl ?_
                      exact ih47 _ (by ((try simp only [vp_in_iff, Int32.lt_iff_toInt_lt, Int32.le_iff_toInt_le, ← Int32.toInt_inj, Int32.reduceToInt, n_1, n_2, n_8, Int32.toNatClampNeg, Int64.lt_iff_toInt_lt, Int64.le_iff_toInt_le, ← Int64.toInt_inj, Int64.reduceToInt, Int32.toInt_toInt64, lg_cmp_ge, lg_cmp_le, lg_cmp_gt, lg_cmp_lt, lg_cmp_eq, Bool.false_eq_true, Bool.true_eq_false, reduceCtorEq, false_iff, true_iff, iff_true, iff_false, and_true, true_and, and_false, false_and, reduceIte, ite_true, ite_false, eq_self] at *)) <;> omega) _ _ _ ⟨Fs46, (khi48_0), (khi48_1), (khi48_2), (khi48_3), As46_85, As46_135, As46_136, As46_137, Ps46_WOK, (by ((try simp only [vp_in_iff, Int32.lt_iff_toInt_lt, Int32.le_iff_toInt_le, ← Int32.toInt_inj, Int32.reduceToInt, n_1, n_2, n_8, Int32.toNatClampNeg, Int64.lt_iff_toInt_lt, Int64.le_iff_toInt_le, ← Int64.toInt_inj, Int64.reduceToInt, Int32.toInt_toInt64, lg_cmp_ge, lg_cmp_le, lg_cmp_gt, lg_cmp_lt, lg_cmp_eq, Bool.false_eq_true, Bool.true_eq_false, reduceCtorEq, false_iff, true_iff, iff_true, iff_false, and_true, true_and, and_false, false_and, reduceIte, ite_true, ite_false, eq_self] at *)) <;> omega), (by ((try simp only [vp_in_iff, Int32.lt_iff_toInt_lt, Int32.le_iff_toInt_le, ← Int32.toInt_inj, Int32.reduceToInt, n_1, n_2, n_8, Int32.toNatClampNeg, Int64.lt_iff_toInt_lt, Int64.le_iff_toInt_le, ← Int64.toInt_inj, Int64.reduceToInt, Int32.toInt_toInt64, lg_cmp_ge, lg_cmp_le, lg_cmp_gt, lg_cmp_lt, lg_cmp_eq, Bool.false_eq_true, Bool.true_eq_false, reduceCtorEq, false_iff, true_iff, iff_true, iff_false, and_true, true_and, and_false, false_and, reduceIte, ite_true, ite_false, eq_self] at *)) <;> omega), trivial⟩ rfl
                    · refine wa_iconst (v := 0) (by decide) ?_
                      refine wa_aload_n (i := 0) rfl rfl ?_
                      refine wa_getr ck_12 fl_12_292 ly_84 rf_84_116 ?_
                      refine wa_iconst (v := 4) (by decide) ?_
                      refine wa_iload rfl ?_
                      refine wa_imul ?_
                      refine wa_top (fun v61 hv61 => ?_)
                      have tv61 := i_mulT hv61
                      clear hv61
                      refine wa_iload rfl ?_
                      refine wa_iadd ?_
                      refine wa_top (fun v62 hv62 => ?_)
                      have tv62 := i_addT hv62
                      clear hv62
                      refine wa_iald ly_137 (by ((try simp only [vp_in_iff, Int32.lt_iff_toInt_lt, Int32.le_iff_toInt_le, ← Int32.toInt_inj, Int32.reduceToInt, n_1, n_2, n_8, Int32.toNatClampNeg, Int64.lt_iff_toInt_lt, Int64.le_iff_toInt_le, ← Int64.toInt_inj, Int64.reduceToInt, Int32.toInt_toInt64, lg_cmp_ge, lg_cmp_le, lg_cmp_gt, lg_cmp_lt, lg_cmp_eq, Bool.false_eq_true, Bool.true_eq_false, reduceCtorEq, false_iff, true_iff, iff_true, iff_false, and_true, true_and, and_false, false_and, reduceIte, ite_true, ite_false, eq_self] at *)) <;> omega) ?_
                      refine wa_top (fun v63 hv63 => ?_)
                      have rv63 : -20 ≤ v63.toInt ∧ v63.toInt ≤ 20 := by rw [← hv63]; exact ar_at As46_137 _
                      clear hv63
                      refine wa_isub ?_
                      refine wa_top (fun v64 hv64 => ?_)
                      have tv64 := i_subT hv64
                      clear hv64
                      refine wa_i2l ?_
                      refine wa_goto o_X12_bound_140 (by decide) ?_
                      refine wa_Sl (d9 := d - 1) [.long _, .long _] [] (sp_X12_max G (d := d - 1) (by omega) s46 _ _) (rfl) rfl rfl (zr (by omega)) mk_X12_max ml_12_1009 (Nat.le_of_ble_eq_true rfl) (fun x66 s65 hs65 => ?_)
                      obtain ⟨zs65, cx66_1, -⟩ := pL hs65
                      subst zs65
                      refine wa_lstoreD (lv' := [(4, .long x66), (0, .ref 84), (1, .int a0), (2, .long v40), (6, .int l6), (7, .int l7)]) (by decide) rfl ?_
                      refine wa_iinc (v := (1)) (lv' := fun y67 => [(7, .int y67), (4, .long x66), (0, .ref 84), (1, .int a0), (2, .long v40), (6, .int l6)]) (by decide) rfl (by decide) (fun _ => rfl) (fun y67 hy67 => ?_)
                      have ty67 := i_addT hy67.symm
                      clear hy67
                      refine wa_goto o_X12_bound_86 (by decide) ?_
                      refine wa_pick [2, 3, 4, 1, 5, 0] rfl ?_
                      exact ih47 _ (by ((try simp only [vp_in_iff, Int32.lt_iff_toInt_lt, Int32.le_iff_toInt_le, ← Int32.toInt_inj, Int32.reduceToInt, n_1, n_2, n_8, Int32.toNatClampNeg, Int64.lt_iff_toInt_lt, Int64.le_iff_toInt_le, ← Int64.toInt_inj, Int64.reduceToInt, Int32.toInt_toInt64, lg_cmp_ge, lg_cmp_le, lg_cmp_gt, lg_cmp_lt, lg_cmp_eq, Bool.false_eq_true, Bool.true_eq_false, reduceCtorEq, false_iff, true_iff, iff_true, iff_false, and_true, true_and, and_false, false_and, reduceIte, ite_true, ite_false, eq_self] at *)) <;> omega) _ _ _ ⟨Fs46, (khi48_0), (khi48_1), (khi48_2), (khi48_3), As46_85, As46_135, As46_136, As46_137, Ps46_WOK, (by ((try simp only [vp_in_iff, Int32.lt_iff_toInt_lt, Int32.le_iff_toInt_le, ← Int32.toInt_inj, Int32.reduceToInt, n_1, n_2, n_8, Int32.toNatClampNeg, Int64.lt_iff_toInt_lt, Int64.le_iff_toInt_le, ← Int64.toInt_inj, Int64.reduceToInt, Int32.toInt_toInt64, lg_cmp_ge, lg_cmp_le, lg_cmp_gt, lg_cmp_lt, lg_cmp_eq, Bool.false_eq_true, Bool.true_eq_false, reduceCtorEq, false_iff, true_iff, iff_true, iff_false, and_true, true_and, and_false, false_and, reduceIte, ite_true, ite_false, eq_self] at *)) <;> omega), (by ((try simp only [vp_in_iff, Int32.lt_iff_toInt_lt, Int32.le_iff_toInt_le, ← Int32.toInt_inj, Int32.reduceToInt, n_1, n_2, n_8, Int32.toNatClampNeg, Int64.lt_iff_toInt_lt, Int64.le_iff_toInt_le, ← Int64.toInt_inj, Int64.reduceToInt, Int32.toInt_toInt64, lg_cmp_ge, lg_cmp_le, lg_cmp_gt, lg_cmp_lt, lg_cmp_eq, Bool.false_eq_true, Bool.true_eq_false, reduceCtorEq, false_iff, true_iff, iff_true, iff_false, and_true, true_and, and_false, false_and, reduceIte, ite_true, ite_false, eq_self] at *)) <;> omega), trivial⟩ rfl
              exact hi48 _ _ _ _ ⟨Fs6, (khi8_0), (khi8_1), (khi8_2), (khi8_3), As6_85, As6_135, As6_136, As6_137, Ps6_WOK, (by ((try simp only [vp_in_iff, Int32.lt_iff_toInt_lt, Int32.le_iff_toInt_le, ← Int32.toInt_inj, Int32.reduceToInt, n_1, n_2, n_8, Int32.toNatClampNeg, Int64.lt_iff_toInt_lt, Int64.le_iff_toInt_le, ← Int64.toInt_inj, Int64.reduceToInt, Int32.toInt_toInt64, lg_cmp_ge, lg_cmp_le, lg_cmp_gt, lg_cmp_lt, lg_cmp_eq, Bool.false_eq_true, Bool.true_eq_false, reduceCtorEq, false_iff, true_iff, iff_true, iff_false, and_true, true_and, and_false, false_and, reduceIte, ite_true, ite_false, eq_self] at *)) <;> omega), (by ((try simp only [vp_in_iff, Int32.lt_iff_toInt_lt, Int32.le_iff_toInt_le, ← Int32.toInt_inj, Int32.reduceToInt, n_1, n_2, n_8, Int32.toNatClampNeg, Int64.lt_iff_toInt_lt, Int64.le_iff_toInt_le, ← Int64.toInt_inj, Int64.reduceToInt, Int32.toInt_toInt64, lg_cmp_ge, lg_cmp_le, lg_cmp_gt, lg_cmp_lt, lg_cmp_eq, Bool.false_eq_true, Bool.true_eq_false, reduceCtorEq, false_iff, true_iff, iff_true, iff_false, and_true, true_and, and_false, false_and, reduceIte, ite_true, ite_false, eq_self] at *)) <;> omega), trivial⟩ rfl
            · refine wa_iconst (v := 0) (by decide) ?_
              refine wa_aload_n (i := 0) rfl rfl ?_
              refine wa_getr ck_12 fl_12_295 ly_84 rf_84_117 ?_
              refine wa_iload rfl ?_
              refine wa_iald ly_136 (by ((try simp only [vp_in_iff, Int32.lt_iff_toInt_lt, Int32.le_iff_toInt_le, ← Int32.toInt_inj, Int32.reduceToInt, n_1, n_2, n_8, Int32.toNatClampNeg, Int64.lt_iff_toInt_lt, Int64.le_iff_toInt_le, ← Int64.toInt_inj, Int64.reduceToInt, Int32.toInt_toInt64, lg_cmp_ge, lg_cmp_le, lg_cmp_gt, lg_cmp_lt, lg_cmp_eq, Bool.false_eq_true, Bool.true_eq_false, reduceCtorEq, false_iff, true_iff, iff_true, iff_false, and_true, true_and, and_false, false_and, reduceIte, ite_true, ite_false, eq_self] at *)) <;> omega) ?_
              refine wa_top (fun v68 hv68 => ?_)
              have rv68 : -99999 ≤ v68.toInt ∧ v68.toInt ≤ 99999 := by rw [← hv68]; exact ar_at As6_136 _
              clear hv68
              refine wa_isub ?_
              refine wa_top (fun v69 hv69 => ?_)
              have tv69 := i_subT hv69
              clear hv69
              refine wa_i2l ?_
              refine wa_goto o_X12_bound_78 (by decide) ?_
              refine wa_Sl (d9 := d - 1) [.long _, .long _] [] (sp_X12_max G (d := d - 1) (by omega) s6 _ _) (rfl) rfl rfl (zr (by omega)) mk_X12_max ml_12_1009 (Nat.le_of_ble_eq_true rfl) (fun x71 s70 hs70 => ?_)
              obtain ⟨zs70, cx71_1, -⟩ := pL hs70
              subst zs70
              refine wa_lstoreD (lv' := [(4, .long x71), (2, .long v40), (0, .ref 84), (1, .int a0), (6, .int l6)]) (by decide) rfl ?_
              refine wa_iconst (v := 0) (by decide) ?_
              refine wa_istoreD (lv' := [(7, .int 0), (4, .long x71), (2, .long v40), (0, .ref 84), (1, .int a0), (6, .int l6)]) (by decide) rfl ?_
              refine wa_pick [3, 4, 2, 1, 5, 0] rfl ?_
              have hi74 : ∀ (n9_86 : Nat) (l4 : Int64) (l7 : Int32) (s72 : St), ((Fm [85, 133, 135, 136, 137] [0, 119, 194] σ s72) ∧ (gi s72 84 33 = gi σ 84 33) ∧ (gi s72 84 32 = gi σ 84 32) ∧ (gi s72 84 119 = gi s4 84 119) ∧ (gi s72 84 194 = gi σ 84 194) ∧ (AR ap_85 s72 85) ∧ (AR ap_135 s72 135) ∧ (AR ap_136 s72 136) ∧ (AR ap_137 s72 137) ∧ (WOK s72) ∧ (0 ≤ l7.toInt) ∧ (1 ≤ l4.toInt ∧ l4.toInt ≤ 99999) ∧ (True)) → (2147483647 - l7.toInt).toNat = n9_86 → WA G M_X12_bound (ZM G M_X12_bound d (fun r σ' => ∃ x : Int32, r = some (.int x) ∧ Fm [85, 133, 135, 136, 137] [0, 119, 194] σ σ' ∧ AR ap_85 σ' 85 ∧ AR ap_135 σ' 135 ∧ AR ap_136 σ' 136 ∧ AR ap_137 σ' 137 ∧ WOK σ' ∧ True)) B_X12_bound_86 [(0, .ref 84), (1, .int a0), (2, .long v40), (4, .long l4), (6, .int l6), (7, .int l7)] [] s72 := by
                intro n9_86
                induction n9_86 using Nat.strongRecOn with
                | _ n9_86 ih73 =>
                  intro l4 l7 s72 i9 m9_86
                  obtain ⟨Fs72, khi74_0, khi74_1, khi74_2, khi74_3, As72_85, As72_135, As72_136, As72_137, Ps72_WOK, jhi74_0, jhi74_1, -⟩ := i9
                  have ul7 := Int32.toInt_lt l7
                  have wl7 := Int32.le_toInt l7
                  refine wa_iload rfl ?_
                  refine wa_iconst (v := 4) (by decide) ?_
                  refine wa_icmp_ge o_X12_bound_151 (by decide) (fun h75 => ?_) (fun h75 => ?_)
                  · refine wa_iinc (v := (1)) (lv' := fun y76 => [(6, .int y76), (0, .ref 84), (1, .int a0), (2, .long v40), (4, .long l4), (7, .int l7)]) (by decide) rfl (by decide) (fun _ => rfl) (fun y76 hy76 => ?_)
                    have ty76 := i_addT hy76.symm
                    clear hy76
                    refine wa_goto o_X12_bound_22 (by decide) ?_
                    refine wa_pick [1, 2, 3, 4, 0] rfl ?_
                    exact ih7 _ (by ((try simp only [vp_in_iff, Int32.lt_iff_toInt_lt, Int32.le_iff_toInt_le, ← Int32.toInt_inj, Int32.reduceToInt, n_1, n_2, n_8, Int32.toNatClampNeg, Int64.lt_iff_toInt_lt, Int64.le_iff_toInt_le, ← Int64.toInt_inj, Int64.reduceToInt, Int32.toInt_toInt64, lg_cmp_ge, lg_cmp_le, lg_cmp_gt, lg_cmp_lt, lg_cmp_eq, Bool.false_eq_true, Bool.true_eq_false, reduceCtorEq, false_iff, true_iff, iff_true, iff_false, and_true, true_and, and_false, false_and, reduceIte, ite_true, ite_false, eq_self] at *)) <;> omega) _ _ _ _ ⟨Fs72, (khi74_0), (khi74_1), (khi74_2), (khi74_3), As72_85, As72_135, As72_136, As72_137, Ps72_WOK, (by ((try simp only [vp_in_iff, Int32.lt_iff_toInt_lt, Int32.le_iff_toInt_le, ← Int32.toInt_inj, Int32.reduceToInt, n_1, n_2, n_8, Int32.toNatClampNeg, Int64.lt_iff_toInt_lt, Int64.le_iff_toInt_le, ← Int64.toInt_inj, Int64.reduceToInt, Int32.toInt_toInt64, lg_cmp_ge, lg_cmp_le, lg_cmp_gt, lg_cmp_lt, lg_cmp_eq, Bool.false_eq_true, Bool.true_eq_false, reduceCtorEq, false_iff, true_iff, iff_true, iff_false, and_true, true_and, and_false, false_and, reduceIte, ite_true, ite_false, eq_self] at *)) <;> omega), (by ((try simp only [vp_in_iff, Int32.lt_iff_toInt_lt, Int32.le_iff_toInt_le, ← Int32.toInt_inj, Int32.reduceToInt, n_1, n_2, n_8, Int32.toNatClampNeg, Int64.lt_iff_toInt_lt, Int64.le_iff_toInt_le, ← Int64.toInt_inj, Int64.reduceToInt, Int32.toInt_toInt64, lg_cmp_ge, lg_cmp_le, lg_cmp_gt, lg_cmp_lt, lg_cmp_eq, Bool.false_eq_true, Bool.true_eq_false, reduceCtorEq, false_iff, true_iff, iff_true, iff_false, and_true, true_and, and_false, false_and, reduceIte, ite_true, ite_false, eq_self] at *)) <;> omega), (by ((try simp only [vp_in_iff, Int32.lt_iff_toInt_lt, Int32.le_iff_toInt_le, ← Int32.toInt_inj, Int32.reduceToInt, n_1, n_2, n_8, Int32.toNatClampNeg, Int64.lt_iff_toInt_lt, Int64.le_iff_toInt_le, ← Int64.toInt_inj, Int64.reduceToInt, Int32.toInt_toInt64, lg_cmp_ge, lg_cmp_le, lg_cmp_gt, lg_cmp_lt, lg_cmp_eq, Bool.false_eq_true, Bool.true_eq_false, reduceCtorEq, false_iff, true_iff, iff_true, iff_false, and_true, true_and, and_false, false_and, reduceIte, ite_true, ite_false, eq_self] at *)) <;> omega), trivial⟩ rfl
                  · have mh75 := nle_mx h75
                    refine wa_lload rfl ?_
                    refine wa_aload_n (i := 0) rfl rfl ?_
                    refine wa_getr ck_12 fl_12_292 ly_84 rf_84_116 ?_
                    refine wa_iconst (v := 4) (by decide) ?_
                    refine wa_iload rfl ?_
                    refine wa_imul ?_
                    refine wa_top (fun v77 hv77 => ?_)
                    have tv77 := i_mulT hv77
                    clear hv77
                    refine wa_iload rfl ?_
                    refine wa_iadd ?_
                    refine wa_top (fun v78 hv78 => ?_)
                    have tv78 := i_addT hv78
                    clear hv78
                    refine wa_iald ly_137 (by ((try simp only [vp_in_iff, Int32.lt_iff_toInt_lt, Int32.le_iff_toInt_le, ← Int32.toInt_inj, Int32.reduceToInt, n_1, n_2, n_8, Int32.toNatClampNeg, Int64.lt_iff_toInt_lt, Int64.le_iff_toInt_le, ← Int64.toInt_inj, Int64.reduceToInt, Int32.toInt_toInt64, lg_cmp_ge, lg_cmp_le, lg_cmp_gt, lg_cmp_lt, lg_cmp_eq, Bool.false_eq_true, Bool.true_eq_false, reduceCtorEq, false_iff, true_iff, iff_true, iff_false, and_true, true_and, and_false, false_and, reduceIte, ite_true, ite_false, eq_self] at *)) <;> omega) ?_
                    refine wa_top (fun v79 hv79 => ?_)
                    have rv79 : -20 ≤ v79.toInt ∧ v79.toInt ≤ 20 := by rw [← hv79]; exact ar_at As72_137 _
                    clear hv79
                    refine wa_if_ge o_X12_bound_127 (by decide) (fun h80 => ?_) (fun h80 => ?_)
                    · refine wa_aload_n (i := 0) rfl rfl ?_
                      refine wa_getr ck_12 fl_12_292 ly_84 rf_84_116 ?_
                      refine wa_iconst (v := 4) (by decide) ?_
                      refine wa_iload rfl ?_
                      refine wa_imul ?_
                      refine wa_top (fun v81 hv81 => ?_)
                      have tv81 := i_mulT hv81
                      clear hv81
                      refine wa_iload rfl ?_
                      refine wa_iadd ?_
                      refine wa_top (fun v82 hv82 => ?_)
                      have tv82 := i_addT hv82
                      clear hv82
                      refine wa_iald ly_137 (by ((try simp only [vp_in_iff, Int32.lt_iff_toInt_lt, Int32.le_iff_toInt_le, ← Int32.toInt_inj, Int32.reduceToInt, n_1, n_2, n_8, Int32.toNatClampNeg, Int64.lt_iff_toInt_lt, Int64.le_iff_toInt_le, ← Int64.toInt_inj, Int64.reduceToInt, Int32.toInt_toInt64, lg_cmp_ge, lg_cmp_le, lg_cmp_gt, lg_cmp_lt, lg_cmp_eq, Bool.false_eq_true, Bool.true_eq_false, reduceCtorEq, false_iff, true_iff, iff_true, iff_false, and_true, true_and, and_false, false_and, reduceIte, ite_true, ite_false, eq_self] at *)) <;> omega) ?_
                      refine wa_top (fun v83 hv83 => ?_)
                      have rv83 : -20 ≤ v83.toInt ∧ v83.toInt ≤ 20 := by rw [← hv83]; exact ar_at As72_137 _
                      clear hv83
                      refine wa_i2l ?_
                      refine wa_Sl (d9 := d - 1) [.long _, .long _] [] (sp_X12_max G (d := d - 1) (by omega) s72 _ _) (rfl) rfl rfl (zr (by omega)) mk_X12_max ml_12_1009 (Nat.le_of_ble_eq_true rfl) (fun x85 s84 hs84 => ?_)
                      obtain ⟨zs84, cx85_1, -⟩ := pL hs84
                      subst zs84
                      refine wa_lstoreD (lv' := [(4, .long x85), (0, .ref 84), (1, .int a0), (2, .long v40), (6, .int l6), (7, .int l7)]) (by decide) rfl ?_
                      refine wa_iinc (v := (1)) (lv' := fun y86 => [(7, .int y86), (4, .long x85), (0, .ref 84), (1, .int a0), (2, .long v40), (6, .int l6)]) (by decide) rfl (by decide) (fun _ => rfl) (fun y86 hy86 => ?_)
                      have ty86 := i_addT hy86.symm
                      clear hy86
                      refine wa_goto o_X12_bound_86 (by decide) ?_
                      refine wa_pick [2, 3, 4, 1, 5, 0] rfl ?_
                      exact ih73 _ (by ((try simp only [vp_in_iff, Int32.lt_iff_toInt_lt, Int32.le_iff_toInt_le, ← Int32.toInt_inj, Int32.reduceToInt, n_1, n_2, n_8, Int32.toNatClampNeg, Int64.lt_iff_toInt_lt, Int64.le_iff_toInt_le, ← Int64.toInt_inj, Int64.reduceToInt, Int32.toInt_toInt64, lg_cmp_ge, lg_cmp_le, lg_cmp_gt, lg_cmp_lt, lg_cmp_eq, Bool.false_eq_true, Bool.true_eq_false, reduceCtorEq, false_iff, true_iff, iff_true, iff_false, and_true, true_and, and_false, false_and, reduceIte, ite_true, ite_false, eq_self] at *)) <;> omega) _ _ _ ⟨Fs72, (khi74_0), (khi74_1), (khi74_2), (khi74_3), As72_85, As72_135, As72_136, As72_137, Ps72_WOK, (by ((try simp only [vp_in_iff, Int32.lt_iff_toInt_lt, Int32.le_iff_toInt_le, ← Int32.toInt_inj, Int32.reduceToInt, n_1, n_2, n_8, Int32.toNatClampNeg, Int64.lt_iff_toInt_lt, Int64.le_iff_toInt_le, ← Int64.toInt_inj, Int64.reduceToInt, Int32.toInt_toInt64, lg_cmp_ge, lg_cmp_le, lg_cmp_gt, lg_cmp_lt, lg_cmp_eq, Bool.false_eq_true, Bool.true_eq_false, reduceCtorEq, false_iff, true_iff, iff_true, iff_false, and_true, true_and, and_false, false_and, reduceIte, ite_true, ite_false, eq_self] at *)) <;> omega), (by ((try simp only [vp_in_iff, Int32.lt_iff_toInt_lt, Int32.le_iff_toInt_le, ← Int32.toInt_inj, Int32.reduceToInt, n_1, n_2, n_8, Int32.toNatClampNeg, Int64.lt_iff_toInt_lt, Int64.le_iff_toInt_le, ← Int64.toInt_inj, Int64.reduceToInt, Int32.toInt_toInt64, lg_cmp_ge, lg_cmp_le, lg_cmp_gt, lg_cmp_lt, lg_cmp_eq, Bool.false_eq_true, Bool.true_eq_false, reduceCtorEq, false_iff, true_iff, iff_true, iff_false, and_true, true_and, and_false, false_and, reduceIte, ite_true, ite_false, eq_self] at *)) <;> omega), trivial⟩ rfl
                    · refine wa_iconst (v := 0) (by decide) ?_
                      refine wa_aload_n (i := 0) rfl rfl ?_
                      refine wa_getr ck_12 fl_12_292 ly_84 rf_84_116 ?_
                      refine wa_iconst (v := 4) (by decide) ?_
                      refine wa_iload rfl ?_
                      refine wa_imul ?_
                      refine wa_top (fun v87 hv87 => ?_)
                      have tv87 := i_mulT hv87
                      clear hv87
                      refine wa_iload rfl ?_
                      refine wa_iadd ?_
                      refine wa_top (fun v88 hv88 => ?_)
                      have tv88 := i_addT hv88
                      clear hv88
                      refine wa_iald ly_137 (by ((try simp only [vp_in_iff, Int32.lt_iff_toInt_lt, Int32.le_iff_toInt_le, ← Int32.toInt_inj, Int32.reduceToInt, n_1, n_2, n_8, Int32.toNatClampNeg, Int64.lt_iff_toInt_lt, Int64.le_iff_toInt_le, ← Int64.toInt_inj, Int64.reduceToInt, Int32.toInt_toInt64, lg_cmp_ge, lg_cmp_le, lg_cmp_gt, lg_cmp_lt, lg_cmp_eq, Bool.false_eq_true, Bool.true_eq_false, reduceCtorEq, false_iff, true_iff, iff_true, iff_false, and_true, true_and, and_false, false_and, reduceIte, ite_true, ite_false, eq_self] at *)) <;> omega) ?_
                      refine wa_top (fun v89 hv89 => ?_)
                      have rv89 : -20 ≤ v89.toInt ∧ v89.toInt ≤ 20 := by rw [← hv89]; exact ar_at As72_137 _
                      clear hv89
                      refine wa_isub ?_
                      refine wa_top (fun v90 hv90 => ?_)
                      have tv90 := i_subT hv90
                      clear hv90
                      refine wa_i2l ?_
                      refine wa_goto o_X12_bound_140 (by decide) ?_
                      refine wa_Sl (d9 := d - 1) [.long _, .long _] [] (sp_X12_max G (d := d - 1) (by omega) s72 _ _) (rfl) rfl rfl (zr (by omega)) mk_X12_max ml_12_1009 (Nat.le_of_ble_eq_true rfl) (fun x92 s91 hs91 => ?_)
                      obtain ⟨zs91, cx92_1, -⟩ := pL hs91
                      subst zs91
                      refine wa_lstoreD (lv' := [(4, .long x92), (0, .ref 84), (1, .int a0), (2, .long v40), (6, .int l6), (7, .int l7)]) (by decide) rfl ?_
                      refine wa_iinc (v := (1)) (lv' := fun y93 => [(7, .int y93), (4, .long x92), (0, .ref 84), (1, .int a0), (2, .long v40), (6, .int l6)]) (by decide) rfl (by decide) (fun _ => rfl) (fun y93 hy93 => ?_)
                      have ty93 := i_addT hy93.symm
                      clear hy93
                      refine wa_goto o_X12_bound_86 (by decide) ?_
                      refine wa_pick [2, 3, 4, 1, 5, 0] rfl ?_
                      exact ih73 _ (by ((try simp only [vp_in_iff, Int32.lt_iff_toInt_lt, Int32.le_iff_toInt_le, ← Int32.toInt_inj, Int32.reduceToInt, n_1, n_2, n_8, Int32.toNatClampNeg, Int64.lt_iff_toInt_lt, Int64.le_iff_toInt_le, ← Int64.toInt_inj, Int64.reduceToInt, Int32.toInt_toInt64, lg_cmp_ge, lg_cmp_le, lg_cmp_gt, lg_cmp_lt, lg_cmp_eq, Bool.false_eq_true, Bool.true_eq_false, reduceCtorEq, false_iff, true_iff, iff_true, iff_false, and_true, true_and, and_false, false_and, reduceIte, ite_true, ite_false, eq_self] at *)) <;> omega) _ _ _ ⟨Fs72, (khi74_0), (khi74_1), (khi74_2), (khi74_3), As72_85, As72_135, As72_136, As72_137, Ps72_WOK, (by ((try simp only [vp_in_iff, Int32.lt_iff_toInt_lt, Int32.le_iff_toInt_le, ← Int32.toInt_inj, Int32.reduceToInt, n_1, n_2, n_8, Int32.toNatClampNeg, Int64.lt_iff_toInt_lt, Int64.le_iff_toInt_le, ← Int64.toInt_inj, Int64.reduceToInt, Int32.toInt_toInt64, lg_cmp_ge, lg_cmp_le, lg_cmp_gt, lg_cmp_lt, lg_cmp_eq, Bool.false_eq_true, Bool.true_eq_false, reduceCtorEq, false_iff, true_iff, iff_true, iff_false, and_true, true_and, and_false, false_and, reduceIte, ite_true, ite_false, eq_self] at *)) <;> omega), (by ((try simp only [vp_in_iff, Int32.lt_iff_toInt_lt, Int32.le_iff_toInt_le, ← Int32.toInt_inj, Int32.reduceToInt, n_1, n_2, n_8, Int32.toNatClampNeg, Int64.lt_iff_toInt_lt, Int64.le_iff_toInt_le, ← Int64.toInt_inj, Int64.reduceToInt, Int32.toInt_toInt64, lg_cmp_ge, lg_cmp_le, lg_cmp_gt, lg_cmp_lt, lg_cmp_eq, Bool.false_eq_true, Bool.true_eq_false, reduceCtorEq, false_iff, true_iff, iff_true, iff_false, and_true, true_and, and_false, false_and, reduceIte, ite_true, ite_false, eq_self] at *)) <;> omega), trivial⟩ rfl
              exact hi74 _ _ _ _ ⟨Fs6, (khi8_0), (khi8_1), (khi8_2), (khi8_3), As6_85, As6_135, As6_136, As6_137, Ps6_WOK, (by ((try simp only [vp_in_iff, Int32.lt_iff_toInt_lt, Int32.le_iff_toInt_le, ← Int32.toInt_inj, Int32.reduceToInt, n_1, n_2, n_8, Int32.toNatClampNeg, Int64.lt_iff_toInt_lt, Int64.le_iff_toInt_le, ← Int64.toInt_inj, Int64.reduceToInt, Int32.toInt_toInt64, lg_cmp_ge, lg_cmp_le, lg_cmp_gt, lg_cmp_lt, lg_cmp_eq, Bool.false_eq_true, Bool.true_eq_false, reduceCtorEq, false_iff, true_iff, iff_true, iff_false, and_true, true_and, and_false, false_and, reduceIte, ite_true, ite_false, eq_self] at *)) <;> omega), (by ((try simp only [vp_in_iff, Int32.lt_iff_toInt_lt, Int32.le_iff_toInt_le, ← Int32.toInt_inj, Int32.reduceToInt, n_1, n_2, n_8, Int32.toNatClampNeg, Int64.lt_iff_toInt_lt, Int64.le_iff_toInt_le, ← Int64.toInt_inj, Int64.reduceToInt, Int32.toInt_toInt64, lg_cmp_ge, lg_cmp_le, lg_cmp_gt, lg_cmp_lt, lg_cmp_eq, Bool.false_eq_true, Bool.true_eq_false, reduceCtorEq, false_iff, true_iff, iff_true, iff_false, and_true, true_and, and_false, false_and, reduceIte, ite_true, ite_false, eq_self] at *)) <;> omega), trivial⟩ rfl
    exact hi8 _ _ _ _ _ ⟨Fs4, ((Fm.gi fs4 (q := 84) (k := 33) rfl rfl).trans (Fm.gi fs1 (q := 84) (k := 33) rfl rfl)), ((Fm.gi fs4 (q := 84) (k := 32) rfl rfl).trans (Fm.gi fs1 (q := 84) (k := 32) rfl rfl)), (rfl), ((Fm.gi fs4 (q := 84) (k := 194) rfl rfl).trans (Fm.gi fs1 (q := 84) (k := 194) rfl rfl)), (ar_fm fs4 rfl rfl (ar_fm fs1 rfl rfl A_85)), As4_135, As4_136, As4_137, Ps4_WOK, (by ((try simp only [vp_in_iff, Int32.lt_iff_toInt_lt, Int32.le_iff_toInt_le, ← Int32.toInt_inj, Int32.reduceToInt, n_1, n_2, n_8, Int32.toNatClampNeg, Int64.lt_iff_toInt_lt, Int64.le_iff_toInt_le, ← Int64.toInt_inj, Int64.reduceToInt, Int32.toInt_toInt64, lg_cmp_ge, lg_cmp_le, lg_cmp_gt, lg_cmp_lt, lg_cmp_eq, Bool.false_eq_true, Bool.true_eq_false, reduceCtorEq, false_iff, true_iff, iff_true, iff_false, and_true, true_and, and_false, false_and, reduceIte, ite_true, ite_false, eq_self] at *)) <;> omega), (by ((try simp only [vp_in_iff, Int32.lt_iff_toInt_lt, Int32.le_iff_toInt_le, ← Int32.toInt_inj, Int32.reduceToInt, n_1, n_2, n_8, Int32.toNatClampNeg, Int64.lt_iff_toInt_lt, Int64.le_iff_toInt_le, ← Int64.toInt_inj, Int64.reduceToInt, Int32.toInt_toInt64, lg_cmp_ge, lg_cmp_le, lg_cmp_gt, lg_cmp_lt, lg_cmp_eq, Bool.false_eq_true, Bool.true_eq_false, reduceCtorEq, false_iff, true_iff, iff_true, iff_false, and_true, true_and, and_false, false_and, reduceIte, ite_true, ite_false, eq_self] at *)) <;> omega), (by ((try simp only [vp_in_iff, Int32.lt_iff_toInt_lt, Int32.le_iff_toInt_le, ← Int32.toInt_inj, Int32.reduceToInt, n_1, n_2, n_8, Int32.toNatClampNeg, Int64.lt_iff_toInt_lt, Int64.le_iff_toInt_le, ← Int64.toInt_inj, Int64.reduceToInt, Int32.toInt_toInt64, lg_cmp_ge, lg_cmp_le, lg_cmp_gt, lg_cmp_lt, lg_cmp_eq, Bool.false_eq_true, Bool.true_eq_false, reduceCtorEq, false_iff, true_iff, iff_true, iff_false, and_true, true_and, and_false, false_and, reduceIte, ite_true, ite_false, eq_self] at *)) <;> omega), trivial⟩ rfl
  · replace h3 := bI_f (b := bx2) (rfl) h3
    refine wa_bipush (v := (-105)) (by decide) ?_
    refine wa_ireturn rfl rfl ?_
    exact ⟨_, rfl, Fs1, (ar_fm fs1 rfl rfl A_85), (ar_fm fs1 rfl rfl A_135), (ar_fm fs1 rfl rfl A_136), (ar_fm fs1 rfl rfl A_137), (WOK_of (fun k => Fm.gi fs1 (q := 135) (k := k) rfl rfl) (fun k => Fm.gi fs1 (q := 136) (k := k) rfl rfl) P_WOK), trivial⟩
theorem pad_31d : True := trivial
