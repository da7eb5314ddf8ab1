set_option maxHeartbeats 4000000 in
theorem sp_X12_takesCase (G : kG9) {d : Nat} (hd : 2 ≤ d) (σ : St) (a0 : Int32) (a1 : Bool) (a2 : Int32) (A_202 : AR ap_202 σ 202) : Ct G M_X12_takesCase d [.ref 84, .int a0, .int (bI a1), .int a2] σ (fun r σ' => ∃ x : Bool, r = some (.int (bI x)) ∧ Fm [86, 87, 88, 89, 90, 91, 92, 147] [101, 102, 187, 192] σ σ' ∧ True) := by
  refine wa_start (by decide) rfl (Nat.le_of_ble_eq_true rfl) (lv := [(0, .ref 84), (1, .int a0), (2, .int (bI a1)), (3, .int a2)]) rfl o_X12_takesCase_0 rfl ?_
  have ua0 := Int32.toInt_lt a0
  have wa0 := Int32.le_toInt a0
  have ua2 := Int32.toInt_lt a2
  have wa2 := Int32.le_toInt a2
  refine wa_aload_n (i := 0) rfl rfl ?_
  refine wa_iload_n (i := 1) rfl rfl ?_
  refine wa_Vi (d9 := d - 1) [.int _] [] (sp_X12_variableAt G (d := d - 1) (by omega) σ _ A_202) (rfl) rfl rfl (zr (by omega)) mk_X12_variableAt ly_84 ml_12_685 (Nat.le_of_ble_eq_true rfl) (fun x2 s1 hs1 => ?_)
  obtain ⟨zs1, -⟩ := pI hs1
  subst zs1
  refine wa_istoreD (lv' := [(4, .int x2), (0, .ref 84), (1, .int a0), (2, .int (bI a1)), (3, .int a2)]) (by decide) rfl ?_
  refine wa_iload rfl ?_
  refine wa_iconst (v := (-1)) (by decide) ?_
  refine wa_icmp_eq o_X12_takesCase_22 (by decide) (fun h3 => ?_) (fun h3 => ?_)
  · refine wa_iconst (v := 0) (by decide) ?_
    refine wa_zreturn false (rfl) rfl rfl ?_
    exact ⟨_, rfl, (Fm.rf [86, 87, 88, 89, 90, 91, 92, 147] [101, 102, 187, 192] σ), trivial⟩
  · refine wa_aload_n (i := 0) rfl rfl ?_
    refine wa_geti ck_12 fl_12_1250 ly_84 ?_
    refine wa_bipush (v := 20) (by decide) ?_
    refine wa_icmp_ne o_X12_takesCase_24 (by decide) (fun h4 => ?_) (fun h4 => ?_)
    · refine wa_aload_n (i := 0) rfl rfl ?_
      refine wa_iload_n (i := 2) rfl rfl ?_
      refine wa_if_eq o_X12_takesCase_36 (by decide) (fun h5 => ?_) (fun h5 => ?_)
      · replace h5 := bI_f (b := a1) (rfl) h5
        refine wa_iload_n (i := 3) rfl rfl ?_
        refine wa_i2l ?_
        refine wa_Vv (d9 := d - 1) [.long _] [] (sp_X12_clearHere G (d := d - 1) (by omega) σ _) (rfl) rfl rfl (zr (by omega)) mk_X12_clearHere ly_84 ml_12_771 (Nat.le_of_ble_eq_true rfl) (fun s6 hs6 => ?_)
        obtain ⟨fs6, -⟩ := hs6
        have Fs6 : Fm [86, 87, 88, 89, 90, 91, 92, 147] [101, 102, 187, 192] σ s6 := Fm.tr (Fm.rf [86, 87, 88, 89, 90, 91, 92, 147] [101, 102, 187, 192] σ) (Fm.wd fs6 rfl rfl)
        refine wa_aload_n (i := 0) rfl rfl ?_
        refine wa_getr ck_12 fl_12_262 ly_84 rf_84_100 ?_
        refine wa_iload rfl ?_
        refine wa_lconst (v := 1) (by decide) ?_
        refine wa_last ly_147 (by ((try simp only [vp_in_iff, Int32.lt_iff_toInt_lt, Int32.le_iff_toInt_le, ← Int32.toInt_inj, Int32.reduceToInt, n_1, n_2, n_8, Int32.toNatClampNeg, Int64.lt_iff_toInt_lt, Int64.le_iff_toInt_le, ← Int64.toInt_inj, Int64.reduceToInt, Int32.toInt_toInt64, lg_cmp_ge, lg_cmp_le, lg_cmp_gt, lg_cmp_lt, lg_cmp_eq, Bool.false_eq_true, Bool.true_eq_false, reduceCtorEq, false_iff, true_iff, iff_true, iff_false, and_true, true_and, and_false, false_and, reduceIte, ite_true, ite_false, eq_self] at *)) <;> omega) (fun s8 hs8 => ?_)
        have Fs8 : Fm [86, 87, 88, 89, 90, 91, 92, 147] [101, 102, 187, 192] σ s8 := by rw [hs8]; exact Fm.sl Fs6 rfl
        refine wa_aload_n (i := 0) rfl rfl ?_
        refine wa_Vi (d9 := d - 1) [] [] (sp_X12_addLine G (d := d - 1) (by omega) s8 ) (rfl) rfl rfl (zr (by omega)) mk_X12_addLine ly_84 ml_12_1261 (Nat.le_of_ble_eq_true rfl) (fun x10 s9 hs9 => ?_)
        obtain ⟨bx10, ex10, fs9, -⟩ := pB hs9
        subst ex10
        have Fs9 : Fm [86, 87, 88, 89, 90, 91, 92, 147] [101, 102, 187, 192] σ s9 := Fm.tr Fs8 (Fm.wd fs9 rfl rfl)
        refine wa_if_ne o_X12_takesCase_58 (by decide) (fun h11 => ?_) (fun h11 => ?_)
        · replace h11 := bI_t (b := bx10) (rfl) h11
          refine wa_aload_n (i := 0) rfl rfl ?_
          refine wa_getr ck_12 fl_12_444 ly_84 rf_84_188 ?_
          refine wa_aload_n (i := 0) rfl rfl ?_
          refine wa_geti ck_12 fl_12_1250 ly_84 ?_
          refine wa_rw ((Fm.gi fs9 (q := 84) (k := 192) rfl rfl).trans ((nx_gi_sl hs8).trans (Fm.gi fs6 (q := 84) (k := 192) rfl rfl))) ?_
          refine wa_iload rfl ?_
          refine wa_iast ly_89 (by ((try simp only [vp_in_iff, Int32.lt_iff_toInt_lt, Int32.le_iff_toInt_le, ← Int32.toInt_inj, Int32.reduceToInt, n_1, n_2, n_8, Int32.toNatClampNeg, Int64.lt_iff_toInt_lt, Int64.le_iff_toInt_le, ← Int64.toInt_inj, Int64.reduceToInt, Int32.toInt_toInt64, lg_cmp_ge, lg_cmp_le, lg_cmp_gt, lg_cmp_lt, lg_cmp_eq, Bool.false_eq_true, Bool.true_eq_false, reduceCtorEq, false_iff, true_iff, iff_true, iff_false, and_true, true_and, and_false, false_and, reduceIte, ite_true, ite_false, eq_self] at *)) <;> omega) (fun s12 hs12 => ?_)
          have Fs12 : Fm [86, 87, 88, 89, 90, 91, 92, 147] [101, 102, 187, 192] σ s12 := by rw [hs12]; exact Fm.si Fs9 rfl
          refine wa_aload_n (i := 0) rfl rfl ?_
          refine wa_getr ck_12 fl_12_447 ly_84 rf_84_189 ?_
          refine wa_aload_n (i := 0) rfl rfl ?_
          refine wa_geti ck_12 fl_12_1250 ly_84 ?_
          refine wa_rw ((nxq_gi_si hs12 (by decide)).trans ((Fm.gi fs9 (q := 84) (k := 192) rfl rfl).trans ((nx_gi_sl hs8).trans (Fm.gi fs6 (q := 84) (k := 192) rfl rfl)))) ?_
          refine wa_aload_n (i := 0) rfl rfl ?_
          refine wa_getl ck_12 fl_12_736 ly_84 ?_
          refine wa_rwl ((nx_gl_si hs12).trans ((Fm.gl fs9 (q := 84) (k := 101) rfl rfl).trans (nxq_gl_sl hs8 (by decide)))) ?_
          refine wa_last ly_88 (by ((try simp only [vp_in_iff, Int32.lt_iff_toInt_lt, Int32.le_iff_toInt_le, ← Int32.toInt_inj, Int32.reduceToInt, n_1, n_2, n_8, Int32.toNatClampNeg, Int64.lt_iff_toInt_lt, Int64.le_iff_toInt_le, ← Int64.toInt_inj, Int64.reduceToInt, Int32.toInt_toInt64, lg_cmp_ge, lg_cmp_le, lg_cmp_gt, lg_cmp_lt, lg_cmp_eq, Bool.false_eq_true, Bool.true_eq_false, reduceCtorEq, false_iff, true_iff, iff_true, iff_false, and_true, true_and, and_false, false_and, reduceIte, ite_true, ite_false, eq_self] at *)) <;> omega) (fun s13 hs13 => ?_)
          have Fs13 : Fm [86, 87, 88, 89, 90, 91, 92, 147] [101, 102, 187, 192] σ s13 := by rw [hs13]; exact Fm.sl Fs12 rfl
          refine wa_aload_n (i := 0) rfl rfl ?_
          refine wa_getr ck_12 fl_12_450 ly_84 rf_84_190 ?_
          refine wa_aload_n (i := 0) rfl rfl ?_
          refine wa_geti ck_12 fl_12_1250 ly_84 ?_
          refine wa_rw ((nx_gi_sl hs13).trans ((nxq_gi_si hs12 (by decide)).trans ((Fm.gi fs9 (q := 84) (k := 192) rfl rfl).trans ((nx_gi_sl hs8).trans (Fm.gi fs6 (q := 84) (k := 192) rfl rfl))))) ?_
          refine wa_aload_n (i := 0) rfl rfl ?_
          refine wa_geti ck_12 fl_12_1247 ly_84 ?_
          refine wa_rw ((nx_gi_sl hs13).trans (nxq_gi_si hs12 (by decide))) ?_
          refine wa_iast ly_87 (by ((try simp only [vp_in_iff, Int32.lt_iff_toInt_lt, Int32.le_iff_toInt_le, ← Int32.toInt_inj, Int32.reduceToInt, n_1, n_2, n_8, Int32.toNatClampNeg, Int64.lt_iff_toInt_lt, Int64.le_iff_toInt_le, ← Int64.toInt_inj, Int64.reduceToInt, Int32.toInt_toInt64, lg_cmp_ge, lg_cmp_le, lg_cmp_gt, lg_cmp_lt, lg_cmp_eq, Bool.false_eq_true, Bool.true_eq_false, reduceCtorEq, false_iff, true_iff, iff_true, iff_false, and_true, true_and, and_false, false_and, reduceIte, ite_true, ite_false, eq_self] at *)) <;> omega) (fun s14 hs14 => ?_)
          have Fs14 : Fm [86, 87, 88, 89, 90, 91, 92, 147] [101, 102, 187, 192] σ s14 := by rw [hs14]; exact Fm.si Fs13 rfl
          refine wa_aload_n (i := 0) rfl rfl ?_
          refine wa_getr ck_12 fl_12_453 ly_84 rf_84_191 ?_
          refine wa_aload_n (i := 0) rfl rfl ?_
          refine wa_geti ck_12 fl_12_1250 ly_84 ?_
          refine wa_rw ((nxq_gi_si hs14 (by decide)).trans ((nx_gi_sl hs13).trans ((nxq_gi_si hs12 (by decide)).trans ((Fm.gi fs9 (q := 84) (k := 192) rfl rfl).trans ((nx_gi_sl hs8).trans (Fm.gi fs6 (q := 84) (k := 192) rfl rfl)))))) ?_
          refine wa_iconst (v := 0) (by decide) ?_
          refine wa_zast false (rfl) ly_86 (by ((try simp only [vp_in_iff, Int32.lt_iff_toInt_lt, Int32.le_iff_toInt_le, ← Int32.toInt_inj, Int32.reduceToInt, n_1, n_2, n_8, Int32.toNatClampNeg, Int64.lt_iff_toInt_lt, Int64.le_iff_toInt_le, ← Int64.toInt_inj, Int64.reduceToInt, Int32.toInt_toInt64, lg_cmp_ge, lg_cmp_le, lg_cmp_gt, lg_cmp_lt, lg_cmp_eq, Bool.false_eq_true, Bool.true_eq_false, reduceCtorEq, false_iff, true_iff, iff_true, iff_false, and_true, true_and, and_false, false_and, reduceIte, ite_true, ite_false, eq_self] at *)) <;> omega) (fun s15 hs15 => ?_)
          have Fs15 : Fm [86, 87, 88, 89, 90, 91, 92, 147] [101, 102, 187, 192] σ s15 := by rw [hs15]; exact Fm.sb Fs14 rfl
          refine wa_aload_n (i := 0) rfl rfl ?_
          refine wa_dup rfl ?_
          refine wa_geti ck_12 fl_12_1250 ly_84 ?_
          refine wa_rw ((nx_gi_sb hs15).trans ((nxq_gi_si hs14 (by decide)).trans ((nx_gi_sl hs13).trans ((nxq_gi_si hs12 (by decide)).trans ((Fm.gi fs9 (q := 84) (k := 192) rfl rfl).trans ((nx_gi_sl hs8).trans (Fm.gi fs6 (q := 84) (k := 192) rfl rfl))))))) ?_
          refine wa_iconst (v := 1) (by decide) ?_
          refine wa_iadd ?_
          refine wa_top (fun v16 hv16 => ?_)
          have tv16 := i_addT hv16
          clear hv16
          refine wa_puti ck_12 fl_12_1250 ly_84 (fun s17 hs17 => ?_)
          have Fs17 : Fm [86, 87, 88, 89, 90, 91, 92, 147] [101, 102, 187, 192] σ s17 := by rw [hs17]; exact Fm.si Fs15 rfl
          refine wa_iconst (v := 1) (by decide) ?_
          refine wa_zreturn true (rfl) rfl rfl ?_
          exact ⟨_, rfl, Fs17, trivial⟩
        · replace h11 := bI_f (b := bx10) (rfl) h11
          refine wa_iconst (v := 0) (by decide) ?_
          refine wa_zreturn false (rfl) rfl rfl ?_
          exact ⟨_, rfl, Fs9, trivial⟩
      · replace h5 := bI_t (b := a1) (rfl) h5
        refine wa_lconst (v := 0) (by decide) ?_
        refine wa_iload_n (i := 3) rfl rfl ?_
        refine wa_i2l ?_
        refine wa_lsub ?_
        refine wa_topl (fun v18 hv18 => ?_)
        have tv18 := s_l_remU hv18
        clear hv18
        refine wa_goto o_X12_takesCase_38 (by decide) ?_
        refine wa_Vv (d9 := d - 1) [.long _] [] (sp_X12_clearHere G (d := d - 1) (by omega) σ _) (rfl) rfl rfl (zr (by omega)) mk_X12_clearHere ly_84 ml_12_771 (Nat.le_of_ble_eq_true rfl) (fun s19 hs19 => ?_)
        obtain ⟨fs19, -⟩ := hs19
        have Fs19 : Fm [86, 87, 88, 89, 90, 91, 92, 147] [101, 102, 187, 192] σ s19 := Fm.tr (Fm.rf [86, 87, 88, 89, 90, 91, 92, 147] [101, 102, 187, 192] σ) (Fm.wd fs19 rfl rfl)
        refine wa_aload_n (i := 0) rfl rfl ?_
        refine wa_getr ck_12 fl_12_262 ly_84 rf_84_100 ?_
        refine wa_iload rfl ?_
        refine wa_lconst (v := 1) (by decide) ?_
        refine wa_last ly_147 (by ((try simp only [vp_in_iff, Int32.lt_iff_toInt_lt, Int32.le_iff_toInt_le, ← Int32.toInt_inj, Int32.reduceToInt, n_1, n_2, n_8, Int32.toNatClampNeg, Int64.lt_iff_toInt_lt, Int64.le_iff_toInt_le, ← Int64.toInt_inj, Int64.reduceToInt, Int32.toInt_toInt64, lg_cmp_ge, lg_cmp_le, lg_cmp_gt, lg_cmp_lt, lg_cmp_eq, Bool.false_eq_true, Bool.true_eq_false, reduceCtorEq, false_iff, true_iff, iff_true, iff_false, and_true, true_and, and_false, false_and, reduceIte, ite_true, ite_false, eq_self] at *)) <;> omega) (fun s21 hs21 => ?_)
        have Fs21 : Fm [86, 87, 88, 89, 90, 91, 92, 147] [101, 102, 187, 192] σ s21 := by rw [hs21]; exact Fm.sl Fs19 rfl
        refine wa_aload_n (i := 0) rfl rfl ?_
        refine wa_Vi (d9 := d - 1) [] [] (sp_X12_addLine G (d := d - 1) (by omega) s21 ) (rfl) rfl rfl (zr (by omega)) mk_X12_addLine ly_84 ml_12_1261 (Nat.le_of_ble_eq_true rfl) (fun x23 s22 hs22 => ?_)
        obtain ⟨bx23, ex23, fs22, -⟩ := pB hs22
        subst ex23
        have Fs22 : Fm [86, 87, 88, 89, 90, 91, 92, 147] [101, 102, 187, 192] σ s22 := Fm.tr Fs21 (Fm.wd fs22 rfl rfl)
        refine wa_if_ne o_X12_takesCase_58 (by decide) (fun h24 => ?_) (fun h24 => ?_)
        · replace h24 := bI_t (b := bx23) (rfl) h24
          refine wa_aload_n (i := 0) rfl rfl ?_
          refine wa_getr ck_12 fl_12_444 ly_84 rf_84_188 ?_
          refine wa_aload_n (i := 0) rfl rfl ?_
          refine wa_geti ck_12 fl_12_1250 ly_84 ?_
          refine wa_rw ((Fm.gi fs22 (q := 84) (k := 192) rfl rfl).trans ((nx_gi_sl hs21).trans (Fm.gi fs19 (q := 84) (k := 192) rfl rfl))) ?_
          refine wa_iload rfl ?_
          refine wa_iast ly_89 (by ((try simp only [vp_in_iff, Int32.lt_iff_toInt_lt, Int32.le_iff_toInt_le, ← Int32.toInt_inj, Int32.reduceToInt, n_1, n_2, n_8, Int32.toNatClampNeg, Int64.lt_iff_toInt_lt, Int64.le_iff_toInt_le, ← Int64.toInt_inj, Int64.reduceToInt, Int32.toInt_toInt64, lg_cmp_ge, lg_cmp_le, lg_cmp_gt, lg_cmp_lt, lg_cmp_eq, Bool.false_eq_true, Bool.true_eq_false, reduceCtorEq, false_iff, true_iff, iff_true, iff_false, and_true, true_and, and_false, false_and, reduceIte, ite_true, ite_false, eq_self] at *)) <;> omega) (fun s25 hs25 => ?_)
          have Fs25 : Fm [86, 87, 88, 89, 90, 91, 92, 147] [101, 102, 187, 192] σ s25 := by rw [hs25]; exact Fm.si Fs22 rfl
          refine wa_aload_n (i := 0) rfl rfl ?_
          refine wa_getr ck_12 fl_12_447 ly_84 rf_84_189 ?_
          refine wa_aload_n (i := 0) rfl rfl ?_
          refine wa_geti ck_12 fl_12_1250 ly_84 ?_
          refine wa_rw ((nxq_gi_si hs25 (by decide)).trans ((Fm.gi fs22 (q := 84) (k := 192) rfl rfl).trans ((nx_gi_sl hs21).trans (Fm.gi fs19 (q := 84) (k := 192) rfl rfl)))) ?_
          refine wa_aload_n (i := 0) rfl rfl ?_
          refine wa_getl ck_12 fl_12_736 ly_84 ?_
          refine wa_rwl ((nx_gl_si hs25).trans ((Fm.gl fs22 (q := 84) (k := 101) rfl rfl).trans (nxq_gl_sl hs21 (by decide)))) ?_
          refine wa_last ly_88 (by ((try simp only [vp_in_iff, Int32.lt_iff_toInt_lt, Int32.le_iff_toInt_le, ← Int32.toInt_inj, Int32.reduceToInt, n_1, n_2, n_8, Int32.toNatClampNeg, Int64.lt_iff_toInt_lt, Int64.le_iff_toInt_le, ← Int64.toInt_inj, Int64.reduceToInt, Int32.toInt_toInt64, lg_cmp_ge, lg_cmp_le, lg_cmp_gt, lg_cmp_lt, lg_cmp_eq, Bool.false_eq_true, Bool.true_eq_false, reduceCtorEq, false_iff, true_iff, iff_true, iff_false, and_true, true_and, and_false, false_and, reduceIte, ite_true, ite_false, eq_self] at *)) <;> omega) (fun s26 hs26 => ?_)
          have Fs26 : Fm [86, 87, 88, 89, 90, 91, 92, 147] [101, 102, 187, 192] σ s26 := by rw [hs26]; exact Fm.sl Fs25 rfl
          refine wa_aload_n (i := 0) rfl rfl ?_
          refine wa_getr ck_12 fl_12_450 ly_84 rf_84_190 ?_
          refine wa_aload_n (i := 0) rfl rfl ?_
          refine wa_geti ck_12 fl_12_1250 ly_84 ?_
          refine wa_rw ((nx_gi_sl hs26).trans ((nxq_gi_si hs25 (by decide)).trans ((Fm.gi fs22 (q := 84) (k := 192) rfl rfl).trans ((nx_gi_sl hs21).trans (Fm.gi fs19 (q := 84) (k := 192) rfl rfl))))) ?_
          refine wa_aload_n (i := 0) rfl rfl ?_
          refine wa_geti ck_12 fl_12_1247 ly_84 ?_
          refine wa_rw ((nx_gi_sl hs26).trans (nxq_gi_si hs25 (by decide))) ?_
          refine wa_iast ly_87 (by ((try simp only [vp_in_iff, Int32.lt_iff_toInt_lt, Int32.le_iff_toInt_le, ← Int32.toInt_inj, Int32.reduceToInt, n_1, n_2, n_8, Int32.toNatClampNeg, Int64.lt_iff_toInt_lt, Int64.le_iff_toInt_le, ← Int64.toInt_inj, Int64.reduceToInt, Int32.toInt_toInt64, lg_cmp_ge, lg_cmp_le, lg_cmp_gt, lg_cmp_lt, lg_cmp_eq, Bool.false_eq_true, Bool.true_eq_false, reduceCtorEq, false_iff, true_iff, iff_true, iff_false, and_true, true_and, and_false, false_and, reduceIte, ite_true, ite_false, eq_self] at *)) <;> omega) (fun s27 hs27 => ?_)
          have Fs27 : Fm [86, 87, 88, 89, 90, 91, 92, 147] [101, 102, 187, 192] σ s27 := by rw [hs27]; exact Fm.si Fs26 rfl
          refine wa_aload_n (i := 0) rfl rfl ?_
          refine wa_getr ck_12 fl_12_453 ly_84 rf_84_191 ?_
          refine wa_aload_n (i := 0) rfl rfl ?_
          refine wa_geti ck_12 fl_12_1250 ly_84 ?_
          refine wa_rw ((nxq_gi_si hs27 (by decide)).trans ((nx_gi_sl hs26).trans ((nxq_gi_si hs25 (by decide)).trans ((Fm.gi fs22 (q := 84) (k := 192) rfl rfl).trans ((nx_gi_sl hs21).trans (Fm.gi fs19 (q := 84) (k := 192) rfl rfl)))))) ?_
          refine wa_iconst (v := 0) (by decide) ?_
          refine wa_zast false (rfl) ly_86 (by ((try simp only [vp_in_iff, Int32.lt_iff_toInt_lt, Int32.le_iff_toInt_le, ← Int32.toInt_inj, Int32.reduceToInt, n_1, n_2, n_8, Int32.toNatClampNeg, Int64.lt_iff_toInt_lt, Int64.le_iff_toInt_le, ← Int64.toInt_inj, Int64.reduceToInt, Int32.toInt_toInt64, lg_cmp_ge, lg_cmp_le, lg_cmp_gt, lg_cmp_lt, lg_cmp_eq, Bool.false_eq_true, Bool.true_eq_false, reduceCtorEq, false_iff, true_iff, iff_true, iff_false, and_true, true_and, and_false, false_and, reduceIte, ite_true, ite_false, eq_self] at *)) <;> omega) (fun s28 hs28 => ?_)
          have Fs28 : Fm [86, 87, 88, 89, 90, 91, 92, 147] [101, 102, 187, 192] σ s28 := by rw [hs28]; exact Fm.sb Fs27 rfl
          refine wa_aload_n (i := 0) rfl rfl ?_
          refine wa_dup rfl ?_
          refine wa_geti ck_12 fl_12_1250 ly_84 ?_
          refine wa_rw ((nx_gi_sb hs28).trans ((nxq_gi_si hs27 (by decide)).trans ((nx_gi_sl hs26).trans ((nxq_gi_si hs25 (by decide)).trans ((Fm.gi fs22 (q := 84) (k := 192) rfl rfl).trans ((nx_gi_sl hs21).trans (Fm.gi fs19 (q := 84) (k := 192) rfl rfl))))))) ?_
          refine wa_iconst (v := 1) (by decide) ?_
          refine wa_iadd ?_
          refine wa_top (fun v29 hv29 => ?_)
          have tv29 := i_addT hv29
          clear hv29
          refine wa_puti ck_12 fl_12_1250 ly_84 (fun s30 hs30 => ?_)
          have Fs30 : Fm [86, 87, 88, 89, 90, 91, 92, 147] [101, 102, 187, 192] σ s30 := by rw [hs30]; exact Fm.si Fs28 rfl
          refine wa_iconst (v := 1) (by decide) ?_
          refine wa_zreturn true (rfl) rfl rfl ?_
          exact ⟨_, rfl, Fs30, trivial⟩
        · replace h24 := bI_f (b := bx23) (rfl) h24
          refine wa_iconst (v := 0) (by decide) ?_
          refine wa_zreturn false (rfl) rfl rfl ?_
          exact ⟨_, rfl, Fs22, trivial⟩
    · refine wa_iconst (v := 0) (by decide) ?_
      refine wa_zreturn false (rfl) rfl rfl ?_
      exact ⟨_, rfl, (Fm.rf [86, 87, 88, 89, 90, 91, 92, 147] [101, 102, 187, 192] σ), trivial⟩
set_option maxHeartbeats 4000000 in
theorem sp_X12_takesElse (G : kG9) {d : Nat} (hd : 2 ≤ d) (σ : St) : Ct G M_X12_takesElse d [.ref 84] σ (fun r σ' => ∃ x : Bool, r = some (.int (bI x)) ∧ Fm [86, 87, 90, 91, 92, 147] [101, 102, 187] σ σ' ∧ True) := by
  refine wa_start (by decide) rfl (Nat.le_of_ble_eq_true rfl) (lv := [(0, .ref 84)]) rfl o_X12_takesElse_0 rfl ?_
  refine wa_aload_n (i := 0) rfl rfl ?_
  refine wa_geti ck_12 fl_12_1250 ly_84 ?_
  refine wa_iconst (v := 1) (by decide) ?_
  refine wa_isub ?_
  refine wa_top (fun v1 hv1 => ?_)
  have tv1 := i_subT hv1
  clear hv1
  refine wa_istore_nD (lv' := [(1, .int v1), (0, .ref 84)]) (i := 1) rfl (by decide) rfl ?_
  refine wa_aload_n (i := 0) rfl rfl ?_
  refine wa_Vi (d9 := d - 1) [] [] (sp_X12_isEnded G (d := d - 1) (by omega) σ ) (rfl) rfl rfl (zr (by omega)) mk_X12_isEnded ly_84 ml_12_1267 (Nat.le_of_ble_eq_true rfl) (fun x3 s2 hs2 => ?_)
  obtain ⟨bx3, ex3, zs2, -⟩ := pB hs2
  subst ex3
  subst zs2
  refine wa_if_eq o_X12_takesElse_33 (by decide) (fun h4 => ?_) (fun h4 => ?_)
  · replace h4 := bI_f (b := bx3) (rfl) h4
    refine wa_iconst (v := 0) (by decide) ?_
    refine wa_zreturn false (rfl) rfl rfl ?_
    exact ⟨_, rfl, (Fm.rf [86, 87, 90, 91, 92, 147] [101, 102, 187] σ), trivial⟩
  · replace h4 := bI_t (b := bx3) (rfl) h4
    refine wa_aload_n (i := 0) rfl rfl ?_
    refine wa_getr ck_12 fl_12_453 ly_84 rf_84_191 ?_
    refine wa_iload_n (i := 1) rfl rfl ?_
    refine wa_zald ly_86 (by ((try simp only [vp_in_iff, Int32.lt_iff_toInt_lt, Int32.le_iff_toInt_le, ← Int32.toInt_inj, Int32.reduceToInt, n_1, n_2, n_8, Int32.toNatClampNeg, Int64.lt_iff_toInt_lt, Int64.le_iff_toInt_le, ← Int64.toInt_inj, Int64.reduceToInt, Int32.toInt_toInt64, lg_cmp_ge, lg_cmp_le, lg_cmp_gt, lg_cmp_lt, lg_cmp_eq, Bool.false_eq_true, Bool.true_eq_false, reduceCtorEq, false_iff, true_iff, iff_true, iff_false, and_true, true_and, and_false, false_and, reduceIte, ite_true, ite_false, eq_self] at *)) <;> omega) ?_
    refine wa_if_ne o_X12_takesElse_33 (by decide) (fun h5 => ?_) (fun h5 => ?_)
    · replace h5 := bI_t (b := (gb σ 86 (v1).toNatClampNeg)) (rfl) h5
      refine wa_iconst (v := 0) (by decide) ?_
      refine wa_zreturn false (rfl) rfl rfl ?_
      exact ⟨_, rfl, (Fm.rf [86, 87, 90, 91, 92, 147] [101, 102, 187] σ), trivial⟩
    · replace h5 := bI_f (b := (gb σ 86 (v1).toNatClampNeg)) (rfl) h5
      refine wa_aload_n (i := 0) rfl rfl ?_
      refine wa_geti ck_12 fl_12_1247 ly_84 ?_
      refine wa_sipush (v := 200) (by decide) ?_
      refine wa_icmp_ne o_X12_takesElse_35 (by decide) (fun h6 => ?_) (fun h6 => ?_)
      · refine wa_aload_n (i := 0) rfl rfl ?_
        refine wa_aload_n (i := 0) rfl rfl ?_
        refine wa_getr ck_12 fl_12_450 ly_84 rf_84_190 ?_
        refine wa_iload_n (i := 1) rfl rfl ?_
        refine wa_iald ly_87 (by ((try simp only [vp_in_iff, Int32.lt_iff_toInt_lt, Int32.le_iff_toInt_le, ← Int32.toInt_inj, Int32.reduceToInt, n_1, n_2, n_8, Int32.toNatClampNeg, Int64.lt_iff_toInt_lt, Int64.le_iff_toInt_le, ← Int64.toInt_inj, Int64.reduceToInt, Int32.toInt_toInt64, lg_cmp_ge, lg_cmp_le, lg_cmp_gt, lg_cmp_lt, lg_cmp_eq, Bool.false_eq_true, Bool.true_eq_false, reduceCtorEq, false_iff, true_iff, iff_true, iff_false, and_true, true_and, and_false, false_and, reduceIte, ite_true, ite_false, eq_self] at *)) <;> omega) ?_
        refine wa_Vv (d9 := d - 1) [.int _] [] (sp_X12_forget G (d := d - 1) (by omega) σ _) (rfl) rfl rfl (zr (by omega)) mk_X12_forget ly_84 ml_12_1270 (Nat.le_of_ble_eq_true rfl) (fun s7 hs7 => ?_)
        obtain ⟨fs7, -⟩ := hs7
        have Fs7 : Fm [86, 87, 90, 91, 92, 147] [101, 102, 187] σ s7 := Fm.tr (Fm.rf [86, 87, 90, 91, 92, 147] [101, 102, 187] σ) (Fm.wd fs7 rfl rfl)
        refine wa_aload_n (i := 0) rfl rfl ?_
        refine wa_lconst (v := 0) (by decide) ?_
        refine wa_aload_n (i := 0) rfl rfl ?_
        refine wa_getr ck_12 fl_12_447 ly_84 rf_84_189 ?_
        refine wa_iload_n (i := 1) rfl rfl ?_
        refine wa_lald ly_88 (by ((try simp only [vp_in_iff, Int32.lt_iff_toInt_lt, Int32.le_iff_toInt_le, ← Int32.toInt_inj, Int32.reduceToInt, n_1, n_2, n_8, Int32.toNatClampNeg, Int64.lt_iff_toInt_lt, Int64.le_iff_toInt_le, ← Int64.toInt_inj, Int64.reduceToInt, Int32.toInt_toInt64, lg_cmp_ge, lg_cmp_le, lg_cmp_gt, lg_cmp_lt, lg_cmp_eq, Bool.false_eq_true, Bool.true_eq_false, reduceCtorEq, false_iff, true_iff, iff_true, iff_false, and_true, true_and, and_false, false_and, reduceIte, ite_true, ite_false, eq_self] at *)) <;> omega) ?_
        refine wa_lsub ?_
        refine wa_topl (fun v9 hv9 => ?_)
        have tv9 := s_l_remU hv9
        clear hv9
        refine wa_lconst (v := 1) (by decide) ?_
        refine wa_lsub ?_
        refine wa_topl (fun v10 hv10 => ?_)
        have tv10 := s_l_remU hv10
        clear hv10
        refine wa_Vv (d9 := d - 1) [.long _] [] (sp_X12_clearHere G (d := d - 1) (by omega) s7 _) (rfl) rfl rfl (zr (by omega)) mk_X12_clearHere ly_84 ml_12_771 (Nat.le_of_ble_eq_true rfl) (fun s11 hs11 => ?_)
        obtain ⟨fs11, -⟩ := hs11
        have Fs11 : Fm [86, 87, 90, 91, 92, 147] [101, 102, 187] σ s11 := Fm.tr Fs7 (Fm.wd fs11 rfl rfl)
        refine wa_aload_n (i := 0) rfl rfl ?_
        refine wa_getr ck_12 fl_12_262 ly_84 rf_84_100 ?_
        refine wa_aload_n (i := 0) rfl rfl ?_
        refine wa_getr ck_12 fl_12_444 ly_84 rf_84_188 ?_
        refine wa_iload_n (i := 1) rfl rfl ?_
        refine wa_iald ly_89 (by ((try simp only [vp_in_iff, Int32.lt_iff_toInt_lt, Int32.le_iff_toInt_le, ← Int32.toInt_inj, Int32.reduceToInt, n_1, n_2, n_8, Int32.toNatClampNeg, Int64.lt_iff_toInt_lt, Int64.le_iff_toInt_le, ← Int64.toInt_inj, Int64.reduceToInt, Int32.toInt_toInt64, lg_cmp_ge, lg_cmp_le, lg_cmp_gt, lg_cmp_lt, lg_cmp_eq, Bool.false_eq_true, Bool.true_eq_false, reduceCtorEq, false_iff, true_iff, iff_true, iff_false, and_true, true_and, and_false, false_and, reduceIte, ite_true, ite_false, eq_self] at *)) <;> omega) ?_
        refine wa_ldc2 (v := (-1)) (allW_in (kT_12 _ (List.mem_of_getElem? (i := 97) rfl)) rfl) ?_
        refine wa_last ly_147 (by ((try simp only [vp_in_iff, Int32.lt_iff_toInt_lt, Int32.le_iff_toInt_le, ← Int32.toInt_inj, Int32.reduceToInt, n_1, n_2, n_8, Int32.toNatClampNeg, Int64.lt_iff_toInt_lt, Int64.le_iff_toInt_le, ← Int64.toInt_inj, Int64.reduceToInt, Int32.toInt_toInt64, lg_cmp_ge, lg_cmp_le, lg_cmp_gt, lg_cmp_lt, lg_cmp_eq, Bool.false_eq_true, Bool.true_eq_false, reduceCtorEq, false_iff, true_iff, iff_true, iff_false, and_true, true_and, and_false, false_and, reduceIte, ite_true, ite_false, eq_self] at *)) <;> omega) (fun s13 hs13 => ?_)
        have Fs13 : Fm [86, 87, 90, 91, 92, 147] [101, 102, 187] σ s13 := by rw [hs13]; exact Fm.sl Fs11 rfl
        refine wa_aload_n (i := 0) rfl rfl ?_
        refine wa_Vi (d9 := d - 1) [] [] (sp_X12_addLine G (d := d - 1) (by omega) s13 ) (rfl) rfl rfl (zr (by omega)) mk_X12_addLine ly_84 ml_12_1261 (Nat.le_of_ble_eq_true rfl) (fun x15 s14 hs14 => ?_)
        obtain ⟨bx15, ex15, fs14, -⟩ := pB hs14
        subst ex15
        have Fs14 : Fm [86, 87, 90, 91, 92, 147] [101, 102, 187] σ s14 := Fm.tr Fs13 (Fm.wd fs14 rfl rfl)
        refine wa_istore_nD (lv' := [(2, .int (bI bx15)), (1, .int v1), (0, .ref 84)]) (i := 2) rfl (by decide) rfl ?_
        refine wa_aload_n (i := 0) rfl rfl ?_
        refine wa_getr ck_12 fl_12_450 ly_84 rf_84_190 ?_
        refine wa_iload_n (i := 1) rfl rfl ?_
        refine wa_aload_n (i := 0) rfl rfl ?_
        refine wa_geti ck_12 fl_12_1247 ly_84 ?_
        refine wa_iast ly_87 (by ((try simp only [vp_in_iff, Int32.lt_iff_toInt_lt, Int32.le_iff_toInt_le, ← Int32.toInt_inj, Int32.reduceToInt, n_1, n_2, n_8, Int32.toNatClampNeg, Int64.lt_iff_toInt_lt, Int64.le_iff_toInt_le, ← Int64.toInt_inj, Int64.reduceToInt, Int32.toInt_toInt64, lg_cmp_ge, lg_cmp_le, lg_cmp_gt, lg_cmp_lt, lg_cmp_eq, Bool.false_eq_true, Bool.true_eq_false, reduceCtorEq, false_iff, true_iff, iff_true, iff_false, and_true, true_and, and_false, false_and, reduceIte, ite_true, ite_false, eq_self] at *)) <;> omega) (fun s16 hs16 => ?_)
        have Fs16 : Fm [86, 87, 90, 91, 92, 147] [101, 102, 187] σ s16 := by rw [hs16]; exact Fm.si Fs14 rfl
        refine wa_aload_n (i := 0) rfl rfl ?_
        refine wa_getr ck_12 fl_12_453 ly_84 rf_84_191 ?_
        refine wa_iload_n (i := 1) rfl rfl ?_
        refine wa_iconst (v := 1) (by decide) ?_
        refine wa_zast true (rfl) ly_86 (by ((try simp only [vp_in_iff, Int32.lt_iff_toInt_lt, Int32.le_iff_toInt_le, ← Int32.toInt_inj, Int32.reduceToInt, n_1, n_2, n_8, Int32.toNatClampNeg, Int64.lt_iff_toInt_lt, Int64.le_iff_toInt_le, ← Int64.toInt_inj, Int64.reduceToInt, Int32.toInt_toInt64, lg_cmp_ge, lg_cmp_le, lg_cmp_gt, lg_cmp_lt, lg_cmp_eq, Bool.false_eq_true, Bool.true_eq_false, reduceCtorEq, false_iff, true_iff, iff_true, iff_false, and_true, true_and, and_false, false_and, reduceIte, ite_true, ite_false, eq_self] at *)) <;> omega) (fun s17 hs17 => ?_)
        have Fs17 : Fm [86, 87, 90, 91, 92, 147] [101, 102, 187] σ s17 := by rw [hs17]; exact Fm.sb Fs16 rfl
        refine wa_iload_n (i := 2) rfl rfl ?_
        refine wa_zreturn bx15 (rfl) rfl rfl ?_
        exact ⟨_, rfl, Fs17, trivial⟩
      · refine wa_iconst (v := 0) (by decide) ?_
        refine wa_zreturn false (rfl) rfl rfl ?_
        exact ⟨_, rfl, (Fm.rf [86, 87, 90, 91, 92, 147] [101, 102, 187] σ), trivial⟩
set_option maxHeartbeats 4000000 in
theorem sp_X12_takesDone (G : kG9) {d : Nat} (hd : 2 ≤ d) (σ : St) : Ct G M_X12_takesDone d [.ref 84] σ (fun r σ' => ∃ x : Bool, r = some (.int (bI x)) ∧ Fm [90, 91, 92, 147] [101, 102, 187, 192] σ σ' ∧ True) := by
  refine wa_start (by decide) rfl (Nat.le_of_ble_eq_true rfl) (lv := [(0, .ref 84)]) rfl o_X12_takesDone_0 rfl ?_
  refine wa_aload_n (i := 0) rfl rfl ?_
  refine wa_geti ck_12 fl_12_1250 ly_84 ?_
  refine wa_iconst (v := 1) (by decide) ?_
  refine wa_isub ?_
  refine wa_top (fun v1 hv1 => ?_)
  have tv1 := i_subT hv1
  clear hv1
  refine wa_istore_nD (lv' := [(1, .int v1), (0, .ref 84)]) (i := 1) rfl (by decide) rfl ?_
  refine wa_aload_n (i := 0) rfl rfl ?_
  refine wa_Vi (d9 := d - 1) [] [] (sp_X12_isEnded G (d := d - 1) (by omega) σ ) (rfl) rfl rfl (zr (by omega)) mk_X12_isEnded ly_84 ml_12_1267 (Nat.le_of_ble_eq_true rfl) (fun x3 s2 hs2 => ?_)
  obtain ⟨bx3, ex3, zs2, -⟩ := pB hs2
  subst ex3
  subst zs2
  refine wa_if_eq o_X12_takesDone_33 (by decide) (fun h4 => ?_) (fun h4 => ?_)
  · replace h4 := bI_f (b := bx3) (rfl) h4
    refine wa_iconst (v := 0) (by decide) ?_
    refine wa_zreturn false (rfl) rfl rfl ?_
    exact ⟨_, rfl, (Fm.rf [90, 91, 92, 147] [101, 102, 187, 192] σ), trivial⟩
  · replace h4 := bI_t (b := bx3) (rfl) h4
    refine wa_aload_n (i := 0) rfl rfl ?_
    refine wa_getr ck_12 fl_12_453 ly_84 rf_84_191 ?_
    refine wa_iload_n (i := 1) rfl rfl ?_
    refine wa_zald ly_86 (by ((try simp only [vp_in_iff, Int32.lt_iff_toInt_lt, Int32.le_iff_toInt_le, ← Int32.toInt_inj, Int32.reduceToInt, n_1, n_2, n_8, Int32.toNatClampNeg, Int64.lt_iff_toInt_lt, Int64.le_iff_toInt_le, ← Int64.toInt_inj, Int64.reduceToInt, Int32.toInt_toInt64, lg_cmp_ge, lg_cmp_le, lg_cmp_gt, lg_cmp_lt, lg_cmp_eq, Bool.false_eq_true, Bool.true_eq_false, reduceCtorEq, false_iff, true_iff, iff_true, iff_false, and_true, true_and, and_false, false_and, reduceIte, ite_true, ite_false, eq_self] at *)) <;> omega) ?_
    refine wa_if_eq o_X12_takesDone_33 (by decide) (fun h5 => ?_) (fun h5 => ?_)
    · replace h5 := bI_f (b := (gb σ 86 (v1).toNatClampNeg)) (rfl) h5
      refine wa_iconst (v := 0) (by decide) ?_
      refine wa_zreturn false (rfl) rfl rfl ?_
      exact ⟨_, rfl, (Fm.rf [90, 91, 92, 147] [101, 102, 187, 192] σ), trivial⟩
    · replace h5 := bI_t (b := (gb σ 86 (v1).toNatClampNeg)) (rfl) h5
      refine wa_aload_n (i := 0) rfl rfl ?_
      refine wa_geti ck_12 fl_12_1247 ly_84 ?_
      refine wa_sipush (v := 200) (by decide) ?_
      refine wa_icmp_ne o_X12_takesDone_35 (by decide) (fun h6 => ?_) (fun h6 => ?_)
      · refine wa_aload_n (i := 0) rfl rfl ?_
        refine wa_aload_n (i := 0) rfl rfl ?_
        refine wa_getr ck_12 fl_12_450 ly_84 rf_84_190 ?_
        refine wa_iload_n (i := 1) rfl rfl ?_
        refine wa_iald ly_87 (by ((try simp only [vp_in_iff, Int32.lt_iff_toInt_lt, Int32.le_iff_toInt_le, ← Int32.toInt_inj, Int32.reduceToInt, n_1, n_2, n_8, Int32.toNatClampNeg, Int64.lt_iff_toInt_lt, Int64.le_iff_toInt_le, ← Int64.toInt_inj, Int64.reduceToInt, Int32.toInt_toInt64, lg_cmp_ge, lg_cmp_le, lg_cmp_gt, lg_cmp_lt, lg_cmp_eq, Bool.false_eq_true, Bool.true_eq_false, reduceCtorEq, false_iff, true_iff, iff_true, iff_false, and_true, true_and, and_false, false_and, reduceIte, ite_true, ite_false, eq_self] at *)) <;> omega) ?_
        refine wa_Vv (d9 := d - 1) [.int _] [] (sp_X12_forget G (d := d - 1) (by omega) σ _) (rfl) rfl rfl (zr (by omega)) mk_X12_forget ly_84 ml_12_1270 (Nat.le_of_ble_eq_true rfl) (fun s7 hs7 => ?_)
        obtain ⟨fs7, -⟩ := hs7
        have Fs7 : Fm [90, 91, 92, 147] [101, 102, 187, 192] σ s7 := Fm.tr (Fm.rf [90, 91, 92, 147] [101, 102, 187, 192] σ) (Fm.wd fs7 rfl rfl)
        refine wa_aload_n (i := 0) rfl rfl ?_
        refine wa_ldc2 (v := (-1)) (allW_in (kT_12 _ (List.mem_of_getElem? (i := 97) rfl)) rfl) ?_
        refine wa_Vv (d9 := d - 1) [.long _] [] (sp_X12_clearHere G (d := d - 1) (by omega) s7 _) (rfl) rfl rfl (zr (by omega)) mk_X12_clearHere ly_84 ml_12_771 (Nat.le_of_ble_eq_true rfl) (fun s9 hs9 => ?_)
        obtain ⟨fs9, -⟩ := hs9
        have Fs9 : Fm [90, 91, 92, 147] [101, 102, 187, 192] σ s9 := Fm.tr Fs7 (Fm.wd fs9 rfl rfl)
        refine wa_aload_n (i := 0) rfl rfl ?_
        refine wa_dup rfl ?_
        refine wa_geti ck_12 fl_12_1250 ly_84 ?_
        refine wa_rw ((Fm.gi fs9 (q := 84) (k := 192) rfl rfl).trans (Fm.gi fs7 (q := 84) (k := 192) rfl rfl)) ?_
        refine wa_iconst (v := 1) (by decide) ?_
        refine wa_isub ?_
        refine wa_top (fun v11 hv11 => ?_)
        have tv11 := i_subT hv11
        clear hv11
        refine wa_puti ck_12 fl_12_1250 ly_84 (fun s12 hs12 => ?_)
        have Fs12 : Fm [90, 91, 92, 147] [101, 102, 187, 192] σ s12 := by rw [hs12]; exact Fm.si Fs9 rfl
        refine wa_aload_n (i := 0) rfl rfl ?_
        refine wa_Vi (d9 := d - 1) [] [] (sp_X12_addLine G (d := d - 1) (by omega) s12 ) (rfl) rfl rfl (zr (by omega)) mk_X12_addLine ly_84 ml_12_1261 (Nat.le_of_ble_eq_true rfl) (fun x14 s13 hs13 => ?_)
        obtain ⟨bx14, ex14, fs13, -⟩ := pB hs13
        subst ex14
        have Fs13 : Fm [90, 91, 92, 147] [101, 102, 187, 192] σ s13 := Fm.tr Fs12 (Fm.wd fs13 rfl rfl)
        refine wa_zreturn bx14 (rfl) rfl rfl ?_
        exact ⟨_, rfl, Fs13, trivial⟩
      · refine wa_iconst (v := 0) (by decide) ?_
        refine wa_zreturn false (rfl) rfl rfl ?_
        exact ⟨_, rfl, (Fm.rf [90, 91, 92, 147] [101, 102, 187, 192] σ), trivial⟩
set_option maxHeartbeats 4000000 in
theorem sp_X12_doesProofLine (G : kG9) {d : Nat} (hd : 6 ≤ d) (σ : St) (a0 : Int32) (r1 : 0 ≤ (gi σ 84 12).toInt ∧ (gi σ 84 12).toInt ≤ 2000) (A_156 : AR ap_156 σ 156) (A_158 : AR ap_158 σ 158) (A_159 : AR ap_159 σ 159) (A_202 : AR ap_202 σ 202) : Ct G M_X12_doesProofLine d [.ref 84, .int a0] σ (fun r σ' => ∃ x : Bool, r = some (.int (bI x)) ∧ Fm [86, 87, 88, 89, 90, 91, 92, 147] [101, 102, 187, 192] σ σ' ∧ True) := by
  refine wa_start (by decide) rfl (Nat.le_of_ble_eq_true rfl) (lv := [(0, .ref 84), (1, .int a0)]) rfl o_X12_doesProofLine_0 rfl ?_
  have ua0 := Int32.toInt_lt a0
  have wa0 := Int32.le_toInt a0
  refine wa_aload_n (i := 0) rfl rfl ?_
  refine wa_getr ck_12 fl_12_90 ly_84 rf_84_26 ?_
  refine wa_iload_n (i := 1) rfl rfl ?_
  refine wa_iconst (v := 1) (by decide) ?_
  refine wa_iadd ?_
  refine wa_top (fun v1 hv1 => ?_)
  have tv1 := i_addT hv1
  clear hv1
  refine wa_iald ly_204 (by ((try simp only [vp_in_iff, Int32.lt_iff_toInt_lt, Int32.le_iff_toInt_le, ← Int32.toInt_inj, Int32.reduceToInt, n_1, n_2, n_8, Int32.toNatClampNeg, Int64.lt_iff_toInt_lt, Int64.le_iff_toInt_le, ← Int64.toInt_inj, Int64.reduceToInt, Int32.toInt_toInt64, lg_cmp_ge, lg_cmp_le, lg_cmp_gt, lg_cmp_lt, lg_cmp_eq, Bool.false_eq_true, Bool.true_eq_false, reduceCtorEq, false_iff, true_iff, iff_true, iff_false, and_true, true_and, and_false, false_and, reduceIte, ite_true, ite_false, eq_self] at *)) <;> omega) ?_
  refine wa_istore_nD (lv' := [(2, .int (gi σ 204 (v1).toNatClampNeg)), (0, .ref 84), (1, .int a0)]) (i := 2) rfl (by decide) rfl ?_
  refine wa_aload_n (i := 0) rfl rfl ?_
  refine wa_iload_n (i := 1) rfl rfl ?_
  refine wa_Vi (d9 := d - 1) [.int _] [] (sp_X12_proofWord G (d := d - 1) (by omega) σ _ (by first | assumption | exact Or.inl rfl | exact Or.inr rfl | (((try simp only [vp_in_iff, Int32.lt_iff_toInt_lt, Int32.le_iff_toInt_le, ← Int32.toInt_inj, Int32.reduceToInt, n_1, n_2, n_8, Int32.toNatClampNeg, Int64.lt_iff_toInt_lt, Int64.le_iff_toInt_le, ← Int64.toInt_inj, Int64.reduceToInt, Int32.toInt_toInt64, lg_cmp_ge, lg_cmp_le, lg_cmp_gt, lg_cmp_lt, lg_cmp_eq, Bool.false_eq_true, Bool.true_eq_false, reduceCtorEq, false_iff, true_iff, iff_true, iff_false, and_true, true_and, and_false, false_and, reduceIte, ite_true, ite_false, eq_self] at *)) <;> omega))) (rfl) rfl rfl (zr (by omega)) mk_X12_proofWord ly_84 ml_12_1238 (Nat.le_of_ble_eq_true rfl) (fun x3 s2 hs2 => ?_)
  obtain ⟨zs2, -⟩ := pI hs2
  subst zs2
  refine wa_top (fun q4 hq4 => ?_)
  by_cases h5 : q4 = 1
  · refine wa_tIn (by rw [h5]; decide) (by rw [h5]; decide) (by rw [h5] <;> rfl) o_X12_doesProofLine_48 (by decide) ?_
    refine wa_aload_n (i := 0) rfl rfl ?_
    refine wa_iload_n (i := 1) rfl rfl ?_
    refine wa_iconst (v := 1) (by decide) ?_
    refine wa_iadd ?_
    refine wa_top (fun v6 hv6 => ?_)
    have tv6 := i_addT hv6
    clear hv6
    refine wa_aload_n (i := 0) rfl rfl ?_
    refine wa_getr ck_12 fl_12_90 ly_84 rf_84_26 ?_
    refine wa_iload_n (i := 1) rfl rfl ?_
    refine wa_iconst (v := 2) (by decide) ?_
    refine wa_iadd ?_
    refine wa_top (fun v7 hv7 => ?_)
    have tv7 := i_addT hv7
    clear hv7
    refine wa_iald ly_204 (by ((try simp only [vp_in_iff, Int32.lt_iff_toInt_lt, Int32.le_iff_toInt_le, ← Int32.toInt_inj, Int32.reduceToInt, n_1, n_2, n_8, Int32.toNatClampNeg, Int64.lt_iff_toInt_lt, Int64.le_iff_toInt_le, ← Int64.toInt_inj, Int64.reduceToInt, Int32.toInt_toInt64, lg_cmp_ge, lg_cmp_le, lg_cmp_gt, lg_cmp_lt, lg_cmp_eq, Bool.false_eq_true, Bool.true_eq_false, reduceCtorEq, false_iff, true_iff, iff_true, iff_false, and_true, true_and, and_false, false_and, reduceIte, ite_true, ite_false, eq_self] at *)) <;> omega) ?_
    refine wa_Vi (d9 := d - 1) [.int _, .int _] [] (sp_X12_takesAtom G (d := d - 1) (by omega) σ _ _ A_156 A_158 A_159 A_202) (rfl) rfl rfl (zr (by omega)) mk_X12_takesAtom ly_84 ml_12_1273 (Nat.le_of_ble_eq_true rfl) (fun x9 s8 hs8 => ?_)
    obtain ⟨bx9, ex9, fs8, -⟩ := pB hs8
    subst ex9
    have Fs8 : Fm [86, 87, 88, 89, 90, 91, 92, 147] [101, 102, 187, 192] σ s8 := Fm.tr (Fm.rf [86, 87, 88, 89, 90, 91, 92, 147] [101, 102, 187, 192] σ) (Fm.wd fs8 rfl rfl)
    refine wa_zreturn bx9 (rfl) rfl rfl ?_
    exact ⟨_, rfl, Fs8, trivial⟩
  ·
    by_cases h10 : q4 = 2
    · refine wa_tIn (by rw [h10]; decide) (by rw [h10]; decide) (by rw [h10] <;> rfl) o_X12_doesProofLine_64 (by decide) ?_
      refine wa_aload_n (i := 0) rfl rfl ?_
      refine wa_iload_n (i := 2) rfl rfl ?_
      refine wa_aload_n (i := 0) rfl rfl ?_
      refine wa_getr ck_12 fl_12_90 ly_84 rf_84_26 ?_
      refine wa_iload_n (i := 1) rfl rfl ?_
      refine wa_iconst (v := 2) (by decide) ?_
      refine wa_iadd ?_
      refine wa_top (fun v11 hv11 => ?_)
      have tv11 := i_addT hv11
      clear hv11
      refine wa_iald ly_204 (by ((try simp only [vp_in_iff, Int32.lt_iff_toInt_lt, Int32.le_iff_toInt_le, ← Int32.toInt_inj, Int32.reduceToInt, n_1, n_2, n_8, Int32.toNatClampNeg, Int64.lt_iff_toInt_lt, Int64.le_iff_toInt_le, ← Int64.toInt_inj, Int64.reduceToInt, Int32.toInt_toInt64, lg_cmp_ge, lg_cmp_le, lg_cmp_gt, lg_cmp_lt, lg_cmp_eq, Bool.false_eq_true, Bool.true_eq_false, reduceCtorEq, false_iff, true_iff, iff_true, iff_false, and_true, true_and, and_false, false_and, reduceIte, ite_true, ite_false, eq_self] at *)) <;> omega) ?_
      refine wa_aload_n (i := 0) rfl rfl ?_
      refine wa_getr ck_12 fl_12_90 ly_84 rf_84_26 ?_
      refine wa_iload_n (i := 1) rfl rfl ?_
      refine wa_iconst (v := 3) (by decide) ?_
      refine wa_iadd ?_
      refine wa_top (fun v12 hv12 => ?_)
      have tv12 := i_addT hv12
      clear hv12
      refine wa_iald ly_204 (by ((try simp only [vp_in_iff, Int32.lt_iff_toInt_lt, Int32.le_iff_toInt_le, ← Int32.toInt_inj, Int32.reduceToInt, n_1, n_2, n_8, Int32.toNatClampNeg, Int64.lt_iff_toInt_lt, Int64.le_iff_toInt_le, ← Int64.toInt_inj, Int64.reduceToInt, Int32.toInt_toInt64, lg_cmp_ge, lg_cmp_le, lg_cmp_gt, lg_cmp_lt, lg_cmp_eq, Bool.false_eq_true, Bool.true_eq_false, reduceCtorEq, false_iff, true_iff, iff_true, iff_false, and_true, true_and, and_false, false_and, reduceIte, ite_true, ite_false, eq_self] at *)) <;> omega) ?_
      refine wa_aload_n (i := 0) rfl rfl ?_
      refine wa_getr ck_12 fl_12_90 ly_84 rf_84_26 ?_
      refine wa_iload_n (i := 1) rfl rfl ?_
      refine wa_iconst (v := 4) (by decide) ?_
      refine wa_iadd ?_
      refine wa_top (fun v13 hv13 => ?_)
      have tv13 := i_addT hv13
      clear hv13
      refine wa_iald ly_204 (by ((try simp only [vp_in_iff, Int32.lt_iff_toInt_lt, Int32.le_iff_toInt_le, ← Int32.toInt_inj, Int32.reduceToInt, n_1, n_2, n_8, Int32.toNatClampNeg, Int64.lt_iff_toInt_lt, Int64.le_iff_toInt_le, ← Int64.toInt_inj, Int64.reduceToInt, Int32.toInt_toInt64, lg_cmp_ge, lg_cmp_le, lg_cmp_gt, lg_cmp_lt, lg_cmp_eq, Bool.false_eq_true, Bool.true_eq_false, reduceCtorEq, false_iff, true_iff, iff_true, iff_false, and_true, true_and, and_false, false_and, reduceIte, ite_true, ite_false, eq_self] at *)) <;> omega) ?_
      refine wa_Vi (d9 := d - 1) [.int _, .int _, .int _, .int _] [] (sp_X12_takesSum G (d := d - 1) (by omega) σ _ _ _ _) (rfl) rfl rfl (zr (by omega)) mk_X12_takesSum ly_84 ml_12_1276 (Nat.le_of_ble_eq_true rfl) (fun x15 s14 hs14 => ?_)
      obtain ⟨bx15, ex15, fs14, -⟩ := pB hs14
      subst ex15
      have Fs14 : Fm [86, 87, 88, 89, 90, 91, 92, 147] [101, 102, 187, 192] σ s14 := Fm.tr (Fm.rf [86, 87, 88, 89, 90, 91, 92, 147] [101, 102, 187, 192] σ) (Fm.wd fs14 rfl rfl)
      refine wa_zreturn bx15 (rfl) rfl rfl ?_
      exact ⟨_, rfl, Fs14, trivial⟩
    ·
      by_cases h16 : q4 = 3
      · refine wa_tIn (by rw [h16]; decide) (by rw [h16]; decide) (by rw [h16] <;> rfl) o_X12_doesProofLine_94 (by decide) ?_
        refine wa_aload_n (i := 0) rfl rfl ?_
        refine wa_iload_n (i := 2) rfl rfl ?_
        refine wa_aload_n (i := 0) rfl rfl ?_
        refine wa_getr ck_12 fl_12_90 ly_84 rf_84_26 ?_
        refine wa_iload_n (i := 1) rfl rfl ?_
        refine wa_iconst (v := 2) (by decide) ?_
        refine wa_iadd ?_
        refine wa_top (fun v17 hv17 => ?_)
        have tv17 := i_addT hv17
        clear hv17
        refine wa_iald ly_204 (by ((try simp only [vp_in_iff, Int32.lt_iff_toInt_lt, Int32.le_iff_toInt_le, ← Int32.toInt_inj, Int32.reduceToInt, n_1, n_2, n_8, Int32.toNatClampNeg, Int64.lt_iff_toInt_lt, Int64.le_iff_toInt_le, ← Int64.toInt_inj, Int64.reduceToInt, Int32.toInt_toInt64, lg_cmp_ge, lg_cmp_le, lg_cmp_gt, lg_cmp_lt, lg_cmp_eq, Bool.false_eq_true, Bool.true_eq_false, reduceCtorEq, false_iff, true_iff, iff_true, iff_false, and_true, true_and, and_false, false_and, reduceIte, ite_true, ite_false, eq_self] at *)) <;> omega) ?_
        refine wa_Vi (d9 := d - 1) [.int _, .int _] [] (sp_X12_takesCut G (d := d - 1) (by omega) σ _ _) (rfl) rfl rfl (zr (by omega)) mk_X12_takesCut ly_84 ml_12_1280 (Nat.le_of_ble_eq_true rfl) (fun x19 s18 hs18 => ?_)
        obtain ⟨bx19, ex19, fs18, -⟩ := pB hs18
        subst ex19
        have Fs18 : Fm [86, 87, 88, 89, 90, 91, 92, 147] [101, 102, 187, 192] σ s18 := Fm.tr (Fm.rf [86, 87, 88, 89, 90, 91, 92, 147] [101, 102, 187, 192] σ) (Fm.wd fs18 rfl rfl)
        refine wa_zreturn bx19 (rfl) rfl rfl ?_
        exact ⟨_, rfl, Fs18, trivial⟩
      ·
        by_cases h20 : q4 = 4
        · refine wa_tIn (by rw [h20]; decide) (by rw [h20]; decide) (by rw [h20] <;> rfl) o_X12_doesProofLine_108 (by decide) ?_
          refine wa_aload_n (i := 0) rfl rfl ?_
          refine wa_getr ck_12 fl_12_87 ly_84 rf_84_25 ?_
          refine wa_iload_n (i := 1) rfl rfl ?_
          refine wa_iconst (v := 2) (by decide) ?_
          refine wa_iadd ?_
          refine wa_top (fun v21 hv21 => ?_)
          have tv21 := i_addT hv21
          clear hv21
          refine wa_iald ly_205 (by ((try simp only [vp_in_iff, Int32.lt_iff_toInt_lt, Int32.le_iff_toInt_le, ← Int32.toInt_inj, Int32.reduceToInt, n_1, n_2, n_8, Int32.toNatClampNeg, Int64.lt_iff_toInt_lt, Int64.le_iff_toInt_le, ← Int64.toInt_inj, Int64.reduceToInt, Int32.toInt_toInt64, lg_cmp_ge, lg_cmp_le, lg_cmp_gt, lg_cmp_lt, lg_cmp_eq, Bool.false_eq_true, Bool.true_eq_false, reduceCtorEq, false_iff, true_iff, iff_true, iff_false, and_true, true_and, and_false, false_and, reduceIte, ite_true, ite_false, eq_self] at *)) <;> omega) ?_
          refine wa_iconst (v := 5) (by decide) ?_
          refine wa_icmp_ne o_X12_doesProofLine_124 (by decide) (fun h22 => ?_) (fun h22 => ?_)
          · refine wa_iconst (v := 0) (by decide) ?_
            refine wa_istore_nD (lv' := [(3, .int (bI false)), (2, .int (gi σ 204 (v1).toNatClampNeg)), (0, .ref 84), (1, .int a0)]) (i := 3) rfl (by decide) rfl ?_
            refine wa_aload_n (i := 0) rfl rfl ?_
            refine wa_iload_n (i := 1) rfl rfl ?_
            refine wa_iconst (v := 1) (by decide) ?_
            refine wa_iadd ?_
            refine wa_top (fun v23 hv23 => ?_)
            have tv23 := i_addT hv23
            clear hv23
            refine wa_iload_n (i := 3) rfl rfl ?_
            refine wa_aload_n (i := 0) rfl rfl ?_
            refine wa_getr ck_12 fl_12_90 ly_84 rf_84_26 ?_
            refine wa_iload_n (i := 3) rfl rfl ?_
            refine wa_if_eq o_X12_doesProofLine_145 (by decide) (fun h24 => ?_) (fun h24 => ?_)
            · replace h24 := bI_f (b := false) (rfl) h24
              refine wa_iload_n (i := 1) rfl rfl ?_
              refine wa_iconst (v := 2) (by decide) ?_
              refine wa_iadd ?_
              refine wa_top (fun v25 hv25 => ?_)
              have tv25 := i_addT hv25
              clear hv25
              refine wa_iald ly_204 (by ((try simp only [vp_in_iff, Int32.lt_iff_toInt_lt, Int32.le_iff_toInt_le, ← Int32.toInt_inj, Int32.reduceToInt, n_1, n_2, n_8, Int32.toNatClampNeg, Int64.lt_iff_toInt_lt, Int64.le_iff_toInt_le, ← Int64.toInt_inj, Int64.reduceToInt, Int32.toInt_toInt64, lg_cmp_ge, lg_cmp_le, lg_cmp_gt, lg_cmp_lt, lg_cmp_eq, Bool.false_eq_true, Bool.true_eq_false, reduceCtorEq, false_iff, true_iff, iff_true, iff_false, and_true, true_and, and_false, false_and, reduceIte, ite_true, ite_false, eq_self] at *)) <;> omega) ?_
              refine wa_Vi (d9 := d - 1) [.int _, .int (bI false), .int _] [] (sp_X12_takesCase G (d := d - 1) (by omega) σ _ false _ A_202) (rfl) rfl rfl (zr (by omega)) mk_X12_takesCase ly_84 ml_12_1283 (Nat.le_of_ble_eq_true rfl) (fun x27 s26 hs26 => ?_)
              obtain ⟨bx27, ex27, fs26, -⟩ := pB hs26
              subst ex27
              have Fs26 : Fm [86, 87, 88, 89, 90, 91, 92, 147] [101, 102, 187, 192] σ s26 := Fm.tr (Fm.rf [86, 87, 88, 89, 90, 91, 92, 147] [101, 102, 187, 192] σ) (Fm.wd fs26 rfl rfl)
              refine wa_zreturn bx27 (rfl) rfl rfl ?_
              exact ⟨_, rfl, Fs26, trivial⟩
            · replace h24 := bI_t (b := false) (rfl) h24
              refine wa_iload_n (i := 1) rfl rfl ?_
              refine wa_iconst (v := 3) (by decide) ?_
              refine wa_iadd ?_
              refine wa_top (fun v28 hv28 => ?_)
              have tv28 := i_addT hv28
              clear hv28
              refine wa_goto o_X12_doesProofLine_148 (by decide) ?_
              refine wa_iald ly_204 (by ((try simp only [vp_in_iff, Int32.lt_iff_toInt_lt, Int32.le_iff_toInt_le, ← Int32.toInt_inj, Int32.reduceToInt, n_1, n_2, n_8, Int32.toNatClampNeg, Int64.lt_iff_toInt_lt, Int64.le_iff_toInt_le, ← Int64.toInt_inj, Int64.reduceToInt, Int32.toInt_toInt64, lg_cmp_ge, lg_cmp_le, lg_cmp_gt, lg_cmp_lt, lg_cmp_eq, Bool.false_eq_true, Bool.true_eq_false, reduceCtorEq, false_iff, true_iff, iff_true, iff_false, and_true, true_and, and_false, false_and, reduceIte, ite_true, ite_false, eq_self] at *)) <;> omega) ?_
              refine wa_Vi (d9 := d - 1) [.int _, .int (bI false), .int _] [] (sp_X12_takesCase G (d := d - 1) (by omega) σ _ false _ A_202) (rfl) rfl rfl (zr (by omega)) mk_X12_takesCase ly_84 ml_12_1283 (Nat.le_of_ble_eq_true rfl) (fun x30 s29 hs29 => ?_)
              obtain ⟨bx30, ex30, fs29, -⟩ := pB hs29
              subst ex30
              have Fs29 : Fm [86, 87, 88, 89, 90, 91, 92, 147] [101, 102, 187, 192] σ s29 := Fm.tr (Fm.rf [86, 87, 88, 89, 90, 91, 92, 147] [101, 102, 187, 192] σ) (Fm.wd fs29 rfl rfl)
              refine wa_zreturn bx30 (rfl) rfl rfl ?_
              exact ⟨_, rfl, Fs29, trivial⟩
          · refine wa_iconst (v := 1) (by decide) ?_
            refine wa_goto o_X12_doesProofLine_125 (by decide) ?_
            refine wa_istore_nD (lv' := [(3, .int (bI true)), (2, .int (gi σ 204 (v1).toNatClampNeg)), (0, .ref 84), (1, .int a0)]) (i := 3) rfl (by decide) rfl ?_
            refine wa_aload_n (i := 0) rfl rfl ?_
            refine wa_iload_n (i := 1) rfl rfl ?_
            refine wa_iconst (v := 1) (by decide) ?_
            refine wa_iadd ?_
            refine wa_top (fun v31 hv31 => ?_)
            have tv31 := i_addT hv31
            clear hv31
            refine wa_iload_n (i := 3) rfl rfl ?_
            refine wa_aload_n (i := 0) rfl rfl ?_
            refine wa_getr ck_12 fl_12_90 ly_84 rf_84_26 ?_
            refine wa_iload_n (i := 3) rfl rfl ?_
            refine wa_if_eq o_X12_doesProofLine_145 (by decide) (fun h32 => ?_) (fun h32 => ?_)
            · replace h32 := bI_f (b := true) (rfl) h32
              refine wa_iload_n (i := 1) rfl rfl ?_
              refine wa_iconst (v := 2) (by decide) ?_
              refine wa_iadd ?_
              refine wa_top (fun v33 hv33 => ?_)
              have tv33 := i_addT hv33
              clear hv33
              refine wa_iald ly_204 (by ((try simp only [vp_in_iff, Int32.lt_iff_toInt_lt, Int32.le_iff_toInt_le, ← Int32.toInt_inj, Int32.reduceToInt, n_1, n_2, n_8, Int32.toNatClampNeg, Int64.lt_iff_toInt_lt, Int64.le_iff_toInt_le, ← Int64.toInt_inj, Int64.reduceToInt, Int32.toInt_toInt64, lg_cmp_ge, lg_cmp_le, lg_cmp_gt, lg_cmp_lt, lg_cmp_eq, Bool.false_eq_true, Bool.true_eq_false, reduceCtorEq, false_iff, true_iff, iff_true, iff_false, and_true, true_and, and_false, false_and, reduceIte, ite_true, ite_false, eq_self] at *)) <;> omega) ?_
              refine wa_Vi (d9 := d - 1) [.int _, .int (bI true), .int _] [] (sp_X12_takesCase G (d := d - 1) (by omega) σ _ true _ A_202) (rfl) rfl rfl (zr (by omega)) mk_X12_takesCase ly_84 ml_12_1283 (Nat.le_of_ble_eq_true rfl) (fun x35 s34 hs34 => ?_)
              obtain ⟨bx35, ex35, fs34, -⟩ := pB hs34
              subst ex35
              have Fs34 : Fm [86, 87, 88, 89, 90, 91, 92, 147] [101, 102, 187, 192] σ s34 := Fm.tr (Fm.rf [86, 87, 88, 89, 90, 91, 92, 147] [101, 102, 187, 192] σ) (Fm.wd fs34 rfl rfl)
              refine wa_zreturn bx35 (rfl) rfl rfl ?_
              exact ⟨_, rfl, Fs34, trivial⟩
            · replace h32 := bI_t (b := true) (rfl) h32
              refine wa_iload_n (i := 1) rfl rfl ?_
              refine wa_iconst (v := 3) (by decide) ?_
              refine wa_iadd ?_
              refine wa_top (fun v36 hv36 => ?_)
              have tv36 := i_addT hv36
              clear hv36
              refine wa_goto o_X12_doesProofLine_148 (by decide) ?_
              refine wa_iald ly_204 (by ((try simp only [vp_in_iff, Int32.lt_iff_toInt_lt, Int32.le_iff_toInt_le, ← Int32.toInt_inj, Int32.reduceToInt, n_1, n_2, n_8, Int32.toNatClampNeg, Int64.lt_iff_toInt_lt, Int64.le_iff_toInt_le, ← Int64.toInt_inj, Int64.reduceToInt, Int32.toInt_toInt64, lg_cmp_ge, lg_cmp_le, lg_cmp_gt, lg_cmp_lt, lg_cmp_eq, Bool.false_eq_true, Bool.true_eq_false, reduceCtorEq, false_iff, true_iff, iff_true, iff_false, and_true, true_and, and_false, false_and, reduceIte, ite_true, ite_false, eq_self] at *)) <;> omega) ?_
              refine wa_Vi (d9 := d - 1) [.int _, .int (bI true), .int _] [] (sp_X12_takesCase G (d := d - 1) (by omega) σ _ true _ A_202) (rfl) rfl rfl (zr (by omega)) mk_X12_takesCase ly_84 ml_12_1283 (Nat.le_of_ble_eq_true rfl) (fun x38 s37 hs37 => ?_)
              obtain ⟨bx38, ex38, fs37, -⟩ := pB hs37
              subst ex38
              have Fs37 : Fm [86, 87, 88, 89, 90, 91, 92, 147] [101, 102, 187, 192] σ s37 := Fm.tr (Fm.rf [86, 87, 88, 89, 90, 91, 92, 147] [101, 102, 187, 192] σ) (Fm.wd fs37 rfl rfl)
              refine wa_zreturn bx38 (rfl) rfl rfl ?_
              exact ⟨_, rfl, Fs37, trivial⟩
        ·
          by_cases h39 : q4 = 5
          · refine wa_tIn (by rw [h39]; decide) (by rw [h39]; decide) (by rw [h39] <;> rfl) o_X12_doesProofLine_153 (by decide) ?_
            refine wa_aload_n (i := 0) rfl rfl ?_
            refine wa_Vi (d9 := d - 1) [] [] (sp_X12_takesElse G (d := d - 1) (by omega) σ ) (rfl) rfl rfl (zr (by omega)) mk_X12_takesElse ly_84 ml_12_1287 (Nat.le_of_ble_eq_true rfl) (fun x41 s40 hs40 => ?_)
            obtain ⟨bx41, ex41, fs40, -⟩ := pB hs40
            subst ex41
            have Fs40 : Fm [86, 87, 88, 89, 90, 91, 92, 147] [101, 102, 187, 192] σ s40 := Fm.tr (Fm.rf [86, 87, 88, 89, 90, 91, 92, 147] [101, 102, 187, 192] σ) (Fm.wd fs40 rfl rfl)
            refine wa_zreturn bx41 (rfl) rfl rfl ?_
            exact ⟨_, rfl, Fs40, trivial⟩
          ·
            refine wa_tOut (by (try simp only [vp_in_iff, Int32.lt_iff_toInt_lt, Int32.le_iff_toInt_le, ← Int32.toInt_inj, Int32.reduceToInt, n_1, n_2, n_8, Int32.toNatClampNeg, Int64.lt_iff_toInt_lt, Int64.le_iff_toInt_le, ← Int64.toInt_inj, Int64.reduceToInt, Int32.toInt_toInt64, lg_cmp_ge, lg_cmp_le, lg_cmp_gt, lg_cmp_lt, lg_cmp_eq] at *) <;> omega) o_X12_doesProofLine_158 (by decide) ?_
            refine wa_aload_n (i := 0) rfl rfl ?_
            refine wa_Vi (d9 := d - 1) [] [] (sp_X12_takesDone G (d := d - 1) (by omega) σ ) (rfl) rfl rfl (zr (by omega)) mk_X12_takesDone ly_84 ml_12_1290 (Nat.le_of_ble_eq_true rfl) (fun x43 s42 hs42 => ?_)
            obtain ⟨bx43, ex43, fs42, -⟩ := pB hs42
            subst ex43
            have Fs42 : Fm [86, 87, 88, 89, 90, 91, 92, 147] [101, 102, 187, 192] σ s42 := Fm.tr (Fm.rf [86, 87, 88, 89, 90, 91, 92, 147] [101, 102, 187, 192] σ) (Fm.wd fs42 rfl rfl)
            refine wa_zreturn bx43 (rfl) rfl rfl ?_
            exact ⟨_, rfl, Fs42, trivial⟩
set_option maxHeartbeats 4000000 in
theorem sp_X12_line (G : kG9) {d : Nat} (hd : 1 ≤ d) (σ : St) (a0 : Int32) (a1 : Int32) : Ct G M_X12_line d [.ref 84, .int a0, .int a1] σ (fun r σ' => ∃ x : Int64, r = some (.long x) ∧ Fm [] [0] σ σ' ∧ True) := by
  refine wa_start (by decide) rfl (Nat.le_of_ble_eq_true rfl) (lv := [(0, .ref 84), (1, .int a0), (2, .int a1)]) rfl o_X12_line_0 rfl ?_
  have ua0 := Int32.toInt_lt a0
  have wa0 := Int32.le_toInt a0
  have ua1 := Int32.toInt_lt a1
  have wa1 := Int32.le_toInt a1
  refine wa_aload_n (i := 0) rfl rfl ?_
  refine wa_iload_n (i := 1) rfl rfl ?_
  refine wa_i2l ?_
  refine wa_lconst (v := 1) (by decide) ?_
  refine wa_aload_n (i := 0) rfl rfl ?_
  refine wa_geti ck_12 fl_12_1247 ly_84 ?_
  refine wa_i2l ?_
  refine wa_Si (d9 := d - 1) [.long _, .long _, .long _] [.ref 84] (sp_X12_in G (d := d - 1) (by omega) σ _ _ _) (rfl) rfl rfl (zr (by omega)) mk_X12_in ml_12_504 (Nat.le_of_ble_eq_true rfl) (fun x2 s1 hs1 => ?_)
  obtain ⟨bx2, ex2, zs1, cx2_1, -⟩ := pB hs1
  subst ex2
  subst zs1
  refine wa_if_eq o_X12_line_31 (by decide) (fun h3 => ?_) (fun h3 => ?_)
  · replace h3 := bI_f (b := bx2) (rfl) h3
    have uh3_0 := iff_f cx2_1 h3
    refine wa_iconst (v := 1) (by decide) ?_
    refine wa_puti ck_12 fl_12_3 ly_84 (fun s4 hs4 => ?_)
    have Fs4 : Fm [] [0] σ s4 := by rw [hs4]; exact Fm.si (Fm.rf [] [0] σ) rfl
    refine wa_aload_n (i := 0) rfl rfl ?_
    refine wa_geti ck_12 fl_12_3 ly_84 ?_
    refine wa_rw (nxe_gi_si hs4) ?_
    refine wa_if_le o_X12_line_46 (by decide) (fun h5 => ?_) (fun h5 => ?_)
    · refine wa_iload_n (i := 2) rfl rfl ?_
      refine wa_iconst (v := 4) (by decide) ?_
      refine wa_icmp_ne o_X12_line_60 (by decide) (fun h6 => ?_) (fun h6 => ?_)
      · refine wa_aload_n (i := 0) rfl rfl ?_
        refine wa_getr ck_12 fl_12_435 ly_84 rf_84_184 ?_
        refine wa_iconst (v := 4) (by decide) ?_
        refine wa_iload_n (i := 1) rfl rfl ?_
        refine wa_imul ?_
        refine wa_top (fun v7 hv7 => ?_)
        have tv7 := i_mulT hv7
        clear hv7
        refine wa_iload_n (i := 2) rfl rfl ?_
        refine wa_iadd ?_
        refine wa_top (fun v8 hv8 => ?_)
        have tv8 := i_addT hv8
        clear hv8
        refine wa_lald ly_92 (by ((try simp only [vp_in_iff, Int32.lt_iff_toInt_lt, Int32.le_iff_toInt_le, ← Int32.toInt_inj, Int32.reduceToInt, n_1, n_2, n_8, Int32.toNatClampNeg, Int64.lt_iff_toInt_lt, Int64.le_iff_toInt_le, ← Int64.toInt_inj, Int64.reduceToInt, Int32.toInt_toInt64, lg_cmp_ge, lg_cmp_le, lg_cmp_gt, lg_cmp_lt, lg_cmp_eq, Bool.false_eq_true, Bool.true_eq_false, reduceCtorEq, false_iff, true_iff, iff_true, iff_false, and_true, true_and, and_false, false_and, reduceIte, ite_true, ite_false, eq_self] at *)) <;> omega) ?_
        refine wa_lreturn rfl rfl ?_
        exact ⟨_, rfl, Fs4, trivial⟩
      · refine wa_aload_n (i := 0) rfl rfl ?_
        refine wa_getr ck_12 fl_12_438 ly_84 rf_84_185 ?_
        refine wa_iload_n (i := 1) rfl rfl ?_
        refine wa_lald ly_91 (by ((try simp only [vp_in_iff, Int32.lt_iff_toInt_lt, Int32.le_iff_toInt_le, ← Int32.toInt_inj, Int32.reduceToInt, n_1, n_2, n_8, Int32.toNatClampNeg, Int64.lt_iff_toInt_lt, Int64.le_iff_toInt_le, ← Int64.toInt_inj, Int64.reduceToInt, Int32.toInt_toInt64, lg_cmp_ge, lg_cmp_le, lg_cmp_gt, lg_cmp_lt, lg_cmp_eq, Bool.false_eq_true, Bool.true_eq_false, reduceCtorEq, false_iff, true_iff, iff_true, iff_false, and_true, true_and, and_false, false_and, reduceIte, ite_true, ite_false, eq_self] at *)) <;> omega) ?_
        refine wa_goto o_X12_line_70 (by decide) ?_
        refine wa_lreturn rfl rfl ?_
        exact ⟨_, rfl, Fs4, trivial⟩
    · refine wa_lconst (v := 0) (by decide) ?_
      refine wa_goto o_X12_line_70 (by decide) ?_
      refine wa_lreturn rfl rfl ?_
      exact ⟨_, rfl, Fs4, trivial⟩
  · replace h3 := bI_t (b := bx2) (rfl) h3
    have uh3_0 := iff_t cx2_1 h3
    refine wa_iload_n (i := 2) rfl rfl ?_
    refine wa_i2l ?_
    refine wa_lconst (v := 0) (by decide) ?_
    refine wa_ldc2 (v := (4)) (allW_in (kT_12 _ (List.mem_of_getElem? (i := 125) rfl)) rfl) ?_
    refine wa_Si (d9 := d - 1) [.long _, .long _, .long _] [.ref 84] (sp_X12_in G (d := d - 1) (by omega) σ _ _ _) (rfl) rfl rfl (zr (by omega)) mk_X12_in ml_12_504 (Nat.le_of_ble_eq_true rfl) (fun x10 s9 hs9 => ?_)
    obtain ⟨bx10, ex10, zs9, cx10_1, -⟩ := pB hs9
    subst ex10
    subst zs9
    refine wa_if_eq o_X12_line_31 (by decide) (fun h11 => ?_) (fun h11 => ?_)
    · replace h11 := bI_f (b := bx10) (rfl) h11
      have uh11_0 := iff_f cx10_1 h11
      refine wa_iconst (v := 1) (by decide) ?_
      refine wa_puti ck_12 fl_12_3 ly_84 (fun s12 hs12 => ?_)
      have Fs12 : Fm [] [0] σ s12 := by rw [hs12]; exact Fm.si (Fm.rf [] [0] σ) rfl
      refine wa_aload_n (i := 0) rfl rfl ?_
      refine wa_geti ck_12 fl_12_3 ly_84 ?_
      refine wa_rw (nxe_gi_si hs12) ?_
      refine wa_if_le o_X12_line_46 (by decide) (fun h13 => ?_) (fun h13 => ?_)
      · refine wa_iload_n (i := 2) rfl rfl ?_
        refine wa_iconst (v := 4) (by decide) ?_
        refine wa_icmp_ne o_X12_line_60 (by decide) (fun h14 => ?_) (fun h14 => ?_)
        · refine wa_aload_n (i := 0) rfl rfl ?_
          refine wa_getr ck_12 fl_12_435 ly_84 rf_84_184 ?_
          refine wa_iconst (v := 4) (by decide) ?_
          refine wa_iload_n (i := 1) rfl rfl ?_
          refine wa_imul ?_
          refine wa_top (fun v15 hv15 => ?_)
          have tv15 := i_mulT hv15
          clear hv15
          refine wa_iload_n (i := 2) rfl rfl ?_
          refine wa_iadd ?_
          refine wa_top (fun v16 hv16 => ?_)
          have tv16 := i_addT hv16
          clear hv16
          refine wa_lald ly_92 (by ((try simp only [vp_in_iff, Int32.lt_iff_toInt_lt, Int32.le_iff_toInt_le, ← Int32.toInt_inj, Int32.reduceToInt, n_1, n_2, n_8, Int32.toNatClampNeg, Int64.lt_iff_toInt_lt, Int64.le_iff_toInt_le, ← Int64.toInt_inj, Int64.reduceToInt, Int32.toInt_toInt64, lg_cmp_ge, lg_cmp_le, lg_cmp_gt, lg_cmp_lt, lg_cmp_eq, Bool.false_eq_true, Bool.true_eq_false, reduceCtorEq, false_iff, true_iff, iff_true, iff_false, and_true, true_and, and_false, false_and, reduceIte, ite_true, ite_false, eq_self] at *)) <;> omega) ?_
          refine wa_lreturn rfl rfl ?_
          exact ⟨_, rfl, Fs12, trivial⟩
        · refine wa_aload_n (i := 0) rfl rfl ?_
          refine wa_getr ck_12 fl_12_438 ly_84 rf_84_185 ?_
          refine wa_iload_n (i := 1) rfl rfl ?_
          refine wa_lald ly_91 (by ((try simp only [vp_in_iff, Int32.lt_iff_toInt_lt, Int32.le_iff_toInt_le, ← Int32.toInt_inj, Int32.reduceToInt, n_1, n_2, n_8, Int32.toNatClampNeg, Int64.lt_iff_toInt_lt, Int64.le_iff_toInt_le, ← Int64.toInt_inj, Int64.reduceToInt, Int32.toInt_toInt64, lg_cmp_ge, lg_cmp_le, lg_cmp_gt, lg_cmp_lt, lg_cmp_eq, Bool.false_eq_true, Bool.true_eq_false, reduceCtorEq, false_iff, true_iff, iff_true, iff_false, and_true, true_and, and_false, false_and, reduceIte, ite_true, ite_false, eq_self] at *)) <;> omega) ?_
          refine wa_goto o_X12_line_70 (by decide) ?_
          refine wa_lreturn rfl rfl ?_
          exact ⟨_, rfl, Fs12, trivial⟩
      · refine wa_lconst (v := 0) (by decide) ?_
        refine wa_goto o_X12_line_70 (by decide) ?_
        refine wa_lreturn rfl rfl ?_
        exact ⟨_, rfl, Fs12, trivial⟩
    · replace h11 := bI_t (b := bx10) (rfl) h11
      have uh11_0 := iff_t cx10_1 h11
      refine wa_iconst (v := 0) (by decide) ?_
      refine wa_goto o_X12_line_32 (by decide) ?_
      refine wa_puti ck_12 fl_12_3 ly_84 (fun s17 hs17 => ?_)
      have Fs17 : Fm [] [0] σ s17 := by rw [hs17]; exact Fm.si (Fm.rf [] [0] σ) rfl
      refine wa_aload_n (i := 0) rfl rfl ?_
      refine wa_geti ck_12 fl_12_3 ly_84 ?_
      refine wa_rw (nxe_gi_si hs17) ?_
      refine wa_if_le o_X12_line_46 (by decide) (fun h18 => ?_) (fun h18 => ?_)
      · refine wa_iload_n (i := 2) rfl rfl ?_
        refine wa_iconst (v := 4) (by decide) ?_
        refine wa_icmp_ne o_X12_line_60 (by decide) (fun h19 => ?_) (fun h19 => ?_)
        · refine wa_aload_n (i := 0) rfl rfl ?_
          refine wa_getr ck_12 fl_12_435 ly_84 rf_84_184 ?_
          refine wa_iconst (v := 4) (by decide) ?_
          refine wa_iload_n (i := 1) rfl rfl ?_
          refine wa_imul ?_
          refine wa_top (fun v20 hv20 => ?_)
          have tv20 := i_mulT hv20
          clear hv20
          refine wa_iload_n (i := 2) rfl rfl ?_
          refine wa_iadd ?_
          refine wa_top (fun v21 hv21 => ?_)
          have tv21 := i_addT hv21
          clear hv21
          refine wa_lald ly_92 (by ((try simp only [vp_in_iff, Int32.lt_iff_toInt_lt, Int32.le_iff_toInt_le, ← Int32.toInt_inj, Int32.reduceToInt, n_1, n_2, n_8, Int32.toNatClampNeg, Int64.lt_iff_toInt_lt, Int64.le_iff_toInt_le, ← Int64.toInt_inj, Int64.reduceToInt, Int32.toInt_toInt64, lg_cmp_ge, lg_cmp_le, lg_cmp_gt, lg_cmp_lt, lg_cmp_eq, Bool.false_eq_true, Bool.true_eq_false, reduceCtorEq, false_iff, true_iff, iff_true, iff_false, and_true, true_and, and_false, false_and, reduceIte, ite_true, ite_false, eq_self] at *)) <;> omega) ?_
          refine wa_lreturn rfl rfl ?_
          exact ⟨_, rfl, Fs17, trivial⟩
        · refine wa_aload_n (i := 0) rfl rfl ?_
          refine wa_getr ck_12 fl_12_438 ly_84 rf_84_185 ?_
          refine wa_iload_n (i := 1) rfl rfl ?_
          refine wa_lald ly_91 (by ((try simp only [vp_in_iff, Int32.lt_iff_toInt_lt, Int32.le_iff_toInt_le, ← Int32.toInt_inj, Int32.reduceToInt, n_1, n_2, n_8, Int32.toNatClampNeg, Int64.lt_iff_toInt_lt, Int64.le_iff_toInt_le, ← Int64.toInt_inj, Int64.reduceToInt, Int32.toInt_toInt64, lg_cmp_ge, lg_cmp_le, lg_cmp_gt, lg_cmp_lt, lg_cmp_eq, Bool.false_eq_true, Bool.true_eq_false, reduceCtorEq, false_iff, true_iff, iff_true, iff_false, and_true, true_and, and_false, false_and, reduceIte, ite_true, ite_false, eq_self] at *)) <;> omega) ?_
          refine wa_goto o_X12_line_70 (by decide) ?_
          refine wa_lreturn rfl rfl ?_
          exact ⟨_, rfl, Fs17, trivial⟩
      · refine wa_lconst (v := 0) (by decide) ?_
        refine wa_goto o_X12_line_70 (by decide) ?_
        refine wa_lreturn rfl rfl ?_
        exact ⟨_, rfl, Fs17, trivial⟩
set_option maxHeartbeats 4000000 in
theorem sp_X12_audit (G : kG9) {d : Nat} (hd : 1 ≤ d) (σ : St) : Ct G M_X12_audit d [.ref 84] σ (fun r σ' => ∃ x : Int32, r = some (.int x) ∧ Fm [] [0] σ σ' ∧ True) := by
  refine wa_start (by decide) rfl (Nat.le_of_ble_eq_true rfl) (lv := [(0, .ref 84)]) rfl o_X12_audit_0 rfl ?_
  refine wa_aload_n (i := 0) rfl rfl ?_
  refine wa_Vi (d9 := d - 1) [] [] (sp_X12_asks G (d := d - 1) (by omega) σ ) (rfl) rfl rfl (zr (by omega)) mk_X12_asks ly_84 ml_12_871 (Nat.le_of_ble_eq_true rfl) (fun x2 s1 hs1 => ?_)
  obtain ⟨bx2, ex2, fs1, -⟩ := pB hs1
  subst ex2
  have Fs1 : Fm [] [0] σ s1 := Fm.tr (Fm.rf [] [0] σ) (Fm.wd fs1 rfl rfl)
  refine wa_if_eq o_X12_audit_11 (by decide) (fun h3 => ?_) (fun h3 => ?_)
  · replace h3 := bI_f (b := bx2) (rfl) h3
    refine wa_bipush (v := (-105)) (by decide) ?_
    refine wa_ireturn rfl rfl ?_
    exact ⟨_, rfl, Fs1, trivial⟩
  · replace h3 := bI_t (b := bx2) (rfl) h3
    refine wa_iconst (v := 0) (by decide) ?_
    refine wa_goto o_X12_audit_13 (by decide) ?_
    refine wa_ireturn rfl rfl ?_
    exact ⟨_, rfl, Fs1, trivial⟩
