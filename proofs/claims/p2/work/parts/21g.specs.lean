set_option maxHeartbeats 4000000 in
theorem sp_X7_check (G : kG9) {d : Nat} (hd : 6 ≤ d) (σ : St) (a1 : Int32) (r1 : 0 ≤ (gi σ 31 13).toInt ∧ (gi σ 31 13).toInt ≤ 3000) (r2 : 0 ≤ (gi σ 41 15).toInt ∧ (gi σ 41 15).toInt ≤ 1100) (r3 : 0 ≤ (gi σ 60 12).toInt ∧ (gi σ 60 12).toInt ≤ 4) : Ct G M_X7_check d [.ref 75, .ref 1, .int a1] σ (fun r σ' => ∃ x : Int32, r = some (.int x) ∧ Sm 18 84 σ σ' ∧ (0 ≤ (gi σ' 31 13).toInt ∧ (gi σ' 31 13).toInt ≤ 3000) ∧ (0 ≤ (gi σ' 41 15).toInt ∧ (gi σ' 41 15).toInt ≤ 1100) ∧ (0 ≤ (gi σ' 60 12).toInt ∧ (gi σ' 60 12).toInt ≤ 4) ∧ True) := by
  refine wa_start (by decide) rfl (Nat.le_of_ble_eq_true rfl) (lv := [(0, .ref 75), (1, .ref 1), (2, .int a1)]) rfl o_X7_check_0 rfl ?_
  have ua1 := Int32.toInt_lt a1
  have wa1 := Int32.le_toInt a1
  refine wa_aload_n (i := 0) rfl rfl ?_
  refine wa_getr ck_7 fl_7_38 ly_75 rf_75_0 ?_
  refine wa_aload_n (i := 1) rfl rfl ?_
  refine wa_iconst (v := 0) (by decide) ?_
  refine wa_iload_n (i := 2) rfl rfl ?_
  refine wa_iconst (v := 1) (by decide) ?_
  refine wa_Vv (d9 := d - 1) [.ref 1, .int _, .int _, .int (bI true)] [] (sp_X3_scan_at_1 G (d := d - 1) (by omega) σ _ _ true) (rfl) rfl rfl (zr (by omega)) mk_X3_scan ly_18 ml_7_50 (Nat.le_of_ble_eq_true rfl) (fun s1 hs1 => ?_)
  obtain ⟨fs1, cx2_1, -⟩ := hs1
  have Fs1 := Sm.tr (Sm.rf 18 84 σ) (Sm.wd fs1 (lo' := 18) (hi' := 84) (by decide) (by decide))
  refine wa_aload_n (i := 0) rfl rfl ?_
  refine wa_iconst (v := 0) (by decide) ?_
  refine wa_puti ck_7 fl_7_46 ly_75 (fun s3 hs3 => ?_)
  have Fs3 : Sm 18 84 σ s3 := by rw [hs3]; exact Sm.si Fs1 _ _ (by decide) (by decide)
  refine wa_aload_n (i := 0) rfl rfl ?_
  refine wa_iconst (v := 0) (by decide) ?_
  refine wa_puti ck_7 fl_7_56 ly_75 (fun s4 hs4 => ?_)
  have Fs4 : Sm 18 84 σ s4 := by rw [hs4]; exact Sm.si Fs3 _ _ (by decide) (by decide)
  refine wa_aload_n (i := 0) rfl rfl ?_
  refine wa_iconst (v := 0) (by decide) ?_
  refine wa_puti ck_7 fl_7_59 ly_75 (fun s5 hs5 => ?_)
  have Fs5 : Sm 18 84 σ s5 := by rw [hs5]; exact Sm.si Fs4 _ _ (by decide) (by decide)
  refine wa_aload_n (i := 0) rfl rfl ?_
  refine wa_iconst (v := 0) (by decide) ?_
  refine wa_puti ck_7 fl_7_62 ly_75 (fun s6 hs6 => ?_)
  have Fs6 : Sm 18 84 σ s6 := by rw [hs6]; exact Sm.si Fs5 _ _ (by decide) (by decide)
  refine wa_aload_n (i := 0) rfl rfl ?_
  refine wa_iconst (v := 0) (by decide) ?_
  refine wa_puti ck_7 fl_7_65 ly_75 (fun s7 hs7 => ?_)
  have Fs7 : Sm 18 84 σ s7 := by rw [hs7]; exact Sm.si Fs6 _ _ (by decide) (by decide)
  refine wa_iconst (v := 0) (by decide) ?_
  refine wa_istore_nD (lv' := [(3, .int 0), (0, .ref 75), (1, .ref 1), (2, .int a1)]) (i := 3) rfl (by decide) rfl ?_
  refine wa_pick [1, 0] rfl ?_
  have hi10 : ∀ (n9_38 : Nat) (l3 : Int32) (s8 : St), ((Sm 18 84 σ s8) ∧ (gi s8 31 13 = gi σ 31 13) ∧ (gi s8 41 15 = gi σ 41 15) ∧ (gi s8 60 12 = gi σ 60 12) ∧ (gi s8 18 5 = gi s1 18 5) ∧ (0 ≤ l3.toInt) ∧ (True)) → (2147483647 - l3.toInt).toNat = n9_38 → WA G M_X7_check (ZM G M_X7_check d (fun r σ' => ∃ x : Int32, r = some (.int x) ∧ Sm 18 84 σ σ' ∧ (0 ≤ (gi σ' 31 13).toInt ∧ (gi σ' 31 13).toInt ≤ 3000) ∧ (0 ≤ (gi σ' 41 15).toInt ∧ (gi σ' 41 15).toInt ≤ 1100) ∧ (0 ≤ (gi σ' 60 12).toInt ∧ (gi σ' 60 12).toInt ≤ 4) ∧ True)) B_X7_check_38 [(0, .ref 75), (3, .int l3)] [] s8 := by
    intro n9_38
    induction n9_38 using Nat.strongRecOn with
    | _ n9_38 ih9 =>
      intro l3 s8 i9 m9_38
      obtain ⟨Fs8, khi10_0, khi10_1, khi10_2, khi10_3, jhi10_0, -⟩ := i9
      have ul3 := Int32.toInt_lt l3
      have wl3 := Int32.le_toInt l3
      refine wa_iload_n (i := 3) rfl rfl ?_
      refine wa_sipush (v := 2000) (by decide) ?_
      refine wa_icmp_ge o_X7_check_76 (by decide) (fun h11 => ?_) (fun h11 => ?_)
      · refine wa_aload_n (i := 0) rfl rfl ?_
        refine wa_geti ck_7 fl_7_62 ly_75 ?_
        refine wa_if_eq o_X7_check_85 (by decide) (fun h12 => ?_) (fun h12 => ?_)
        · refine wa_aload_n (i := 0) rfl rfl ?_
          refine wa_geti ck_7 fl_7_56 ly_75 ?_
          refine wa_if_ne o_X7_check_103 (by decide) (fun h13 => ?_) (fun h13 => ?_)
          · refine wa_iconst (v := 0) (by decide) ?_
            refine wa_ireturn rfl rfl ?_
            exact ⟨_, rfl, Fs8, (by rw [khi10_0]; first | assumption | (((try simp only [vp_in_iff, Int32.lt_iff_toInt_lt, Int32.le_iff_toInt_le, ← Int32.toInt_inj, Int32.reduceToInt, n_1, n_2, n_8, Int32.toNatClampNeg, Int64.lt_iff_toInt_lt, Int64.le_iff_toInt_le, ← Int64.toInt_inj, Int64.reduceToInt, Int32.toInt_toInt64, lg_cmp_ge, lg_cmp_le, lg_cmp_gt, lg_cmp_lt, lg_cmp_eq, Bool.false_eq_true, Bool.true_eq_false, reduceCtorEq, false_iff, true_iff, iff_true, iff_false, and_true, true_and, and_false, false_and, reduceIte, ite_true, ite_false, eq_self] at *)) <;> omega)), (by rw [khi10_1]; first | assumption | (((try simp only [vp_in_iff, Int32.lt_iff_toInt_lt, Int32.le_iff_toInt_le, ← Int32.toInt_inj, Int32.reduceToInt, n_1, n_2, n_8, Int32.toNatClampNeg, Int64.lt_iff_toInt_lt, Int64.le_iff_toInt_le, ← Int64.toInt_inj, Int64.reduceToInt, Int32.toInt_toInt64, lg_cmp_ge, lg_cmp_le, lg_cmp_gt, lg_cmp_lt, lg_cmp_eq, Bool.false_eq_true, Bool.true_eq_false, reduceCtorEq, false_iff, true_iff, iff_true, iff_false, and_true, true_and, and_false, false_and, reduceIte, ite_true, ite_false, eq_self] at *)) <;> omega)), (by rw [khi10_2]; first | assumption | (((try simp only [vp_in_iff, Int32.lt_iff_toInt_lt, Int32.le_iff_toInt_le, ← Int32.toInt_inj, Int32.reduceToInt, n_1, n_2, n_8, Int32.toNatClampNeg, Int64.lt_iff_toInt_lt, Int64.le_iff_toInt_le, ← Int64.toInt_inj, Int64.reduceToInt, Int32.toInt_toInt64, lg_cmp_ge, lg_cmp_le, lg_cmp_gt, lg_cmp_lt, lg_cmp_eq, Bool.false_eq_true, Bool.true_eq_false, reduceCtorEq, false_iff, true_iff, iff_true, iff_false, and_true, true_and, and_false, false_and, reduceIte, ite_true, ite_false, eq_self] at *)) <;> omega)), trivial⟩
          · refine wa_aload_n (i := 0) rfl rfl ?_
            refine wa_Vi (d9 := d - 1) [] [] (sp_X7_isLatestFalse G (d := d - 1) (by omega) s8 ) (rfl) rfl rfl (zr (by omega)) mk_X7_isLatestFalse ly_75 ml_7_75 (Nat.le_of_ble_eq_true rfl) (fun x15 s14 hs14 => ?_)
            obtain ⟨bx15, ex15, zs14, -⟩ := pB hs14
            subst ex15
            subst zs14
            refine wa_if_eq o_X7_check_103 (by decide) (fun h16 => ?_) (fun h16 => ?_)
            · replace h16 := bI_f (b := bx15) (rfl) h16
              refine wa_iconst (v := 0) (by decide) ?_
              refine wa_ireturn rfl rfl ?_
              exact ⟨_, rfl, Fs8, (by rw [khi10_0]; first | assumption | (((try simp only [vp_in_iff, Int32.lt_iff_toInt_lt, Int32.le_iff_toInt_le, ← Int32.toInt_inj, Int32.reduceToInt, n_1, n_2, n_8, Int32.toNatClampNeg, Int64.lt_iff_toInt_lt, Int64.le_iff_toInt_le, ← Int64.toInt_inj, Int64.reduceToInt, Int32.toInt_toInt64, lg_cmp_ge, lg_cmp_le, lg_cmp_gt, lg_cmp_lt, lg_cmp_eq, Bool.false_eq_true, Bool.true_eq_false, reduceCtorEq, false_iff, true_iff, iff_true, iff_false, and_true, true_and, and_false, false_and, reduceIte, ite_true, ite_false, eq_self] at *)) <;> omega)), (by rw [khi10_1]; first | assumption | (((try simp only [vp_in_iff, Int32.lt_iff_toInt_lt, Int32.le_iff_toInt_le, ← Int32.toInt_inj, Int32.reduceToInt, n_1, n_2, n_8, Int32.toNatClampNeg, Int64.lt_iff_toInt_lt, Int64.le_iff_toInt_le, ← Int64.toInt_inj, Int64.reduceToInt, Int32.toInt_toInt64, lg_cmp_ge, lg_cmp_le, lg_cmp_gt, lg_cmp_lt, lg_cmp_eq, Bool.false_eq_true, Bool.true_eq_false, reduceCtorEq, false_iff, true_iff, iff_true, iff_false, and_true, true_and, and_false, false_and, reduceIte, ite_true, ite_false, eq_self] at *)) <;> omega)), (by rw [khi10_2]; first | assumption | (((try simp only [vp_in_iff, Int32.lt_iff_toInt_lt, Int32.le_iff_toInt_le, ← Int32.toInt_inj, Int32.reduceToInt, n_1, n_2, n_8, Int32.toNatClampNeg, Int64.lt_iff_toInt_lt, Int64.le_iff_toInt_le, ← Int64.toInt_inj, Int64.reduceToInt, Int32.toInt_toInt64, lg_cmp_ge, lg_cmp_le, lg_cmp_gt, lg_cmp_lt, lg_cmp_eq, Bool.false_eq_true, Bool.true_eq_false, reduceCtorEq, false_iff, true_iff, iff_true, iff_false, and_true, true_and, and_false, false_and, reduceIte, ite_true, ite_false, eq_self] at *)) <;> omega)), trivial⟩
            · replace h16 := bI_t (b := bx15) (rfl) h16
              refine wa_iconst (v := 1) (by decide) ?_
              refine wa_goto o_X7_check_104 (by decide) ?_
              refine wa_ireturn rfl rfl ?_
              exact ⟨_, rfl, Fs8, (by rw [khi10_0]; first | assumption | (((try simp only [vp_in_iff, Int32.lt_iff_toInt_lt, Int32.le_iff_toInt_le, ← Int32.toInt_inj, Int32.reduceToInt, n_1, n_2, n_8, Int32.toNatClampNeg, Int64.lt_iff_toInt_lt, Int64.le_iff_toInt_le, ← Int64.toInt_inj, Int64.reduceToInt, Int32.toInt_toInt64, lg_cmp_ge, lg_cmp_le, lg_cmp_gt, lg_cmp_lt, lg_cmp_eq, Bool.false_eq_true, Bool.true_eq_false, reduceCtorEq, false_iff, true_iff, iff_true, iff_false, and_true, true_and, and_false, false_and, reduceIte, ite_true, ite_false, eq_self] at *)) <;> omega)), (by rw [khi10_1]; first | assumption | (((try simp only [vp_in_iff, Int32.lt_iff_toInt_lt, Int32.le_iff_toInt_le, ← Int32.toInt_inj, Int32.reduceToInt, n_1, n_2, n_8, Int32.toNatClampNeg, Int64.lt_iff_toInt_lt, Int64.le_iff_toInt_le, ← Int64.toInt_inj, Int64.reduceToInt, Int32.toInt_toInt64, lg_cmp_ge, lg_cmp_le, lg_cmp_gt, lg_cmp_lt, lg_cmp_eq, Bool.false_eq_true, Bool.true_eq_false, reduceCtorEq, false_iff, true_iff, iff_true, iff_false, and_true, true_and, and_false, false_and, reduceIte, ite_true, ite_false, eq_self] at *)) <;> omega)), (by rw [khi10_2]; first | assumption | (((try simp only [vp_in_iff, Int32.lt_iff_toInt_lt, Int32.le_iff_toInt_le, ← Int32.toInt_inj, Int32.reduceToInt, n_1, n_2, n_8, Int32.toNatClampNeg, Int64.lt_iff_toInt_lt, Int64.le_iff_toInt_le, ← Int64.toInt_inj, Int64.reduceToInt, Int32.toInt_toInt64, lg_cmp_ge, lg_cmp_le, lg_cmp_gt, lg_cmp_lt, lg_cmp_eq, Bool.false_eq_true, Bool.true_eq_false, reduceCtorEq, false_iff, true_iff, iff_true, iff_false, and_true, true_and, and_false, false_and, reduceIte, ite_true, ite_false, eq_self] at *)) <;> omega)), trivial⟩
        · refine wa_iconst (v := (-1)) (by decide) ?_
          refine wa_ireturn rfl rfl ?_
          exact ⟨_, rfl, Fs8, (by rw [khi10_0]; first | assumption | (((try simp only [vp_in_iff, Int32.lt_iff_toInt_lt, Int32.le_iff_toInt_le, ← Int32.toInt_inj, Int32.reduceToInt, n_1, n_2, n_8, Int32.toNatClampNeg, Int64.lt_iff_toInt_lt, Int64.le_iff_toInt_le, ← Int64.toInt_inj, Int64.reduceToInt, Int32.toInt_toInt64, lg_cmp_ge, lg_cmp_le, lg_cmp_gt, lg_cmp_lt, lg_cmp_eq, Bool.false_eq_true, Bool.true_eq_false, reduceCtorEq, false_iff, true_iff, iff_true, iff_false, and_true, true_and, and_false, false_and, reduceIte, ite_true, ite_false, eq_self] at *)) <;> omega)), (by rw [khi10_1]; first | assumption | (((try simp only [vp_in_iff, Int32.lt_iff_toInt_lt, Int32.le_iff_toInt_le, ← Int32.toInt_inj, Int32.reduceToInt, n_1, n_2, n_8, Int32.toNatClampNeg, Int64.lt_iff_toInt_lt, Int64.le_iff_toInt_le, ← Int64.toInt_inj, Int64.reduceToInt, Int32.toInt_toInt64, lg_cmp_ge, lg_cmp_le, lg_cmp_gt, lg_cmp_lt, lg_cmp_eq, Bool.false_eq_true, Bool.true_eq_false, reduceCtorEq, false_iff, true_iff, iff_true, iff_false, and_true, true_and, and_false, false_and, reduceIte, ite_true, ite_false, eq_self] at *)) <;> omega)), (by rw [khi10_2]; first | assumption | (((try simp only [vp_in_iff, Int32.lt_iff_toInt_lt, Int32.le_iff_toInt_le, ← Int32.toInt_inj, Int32.reduceToInt, n_1, n_2, n_8, Int32.toNatClampNeg, Int64.lt_iff_toInt_lt, Int64.le_iff_toInt_le, ← Int64.toInt_inj, Int64.reduceToInt, Int32.toInt_toInt64, lg_cmp_ge, lg_cmp_le, lg_cmp_gt, lg_cmp_lt, lg_cmp_eq, Bool.false_eq_true, Bool.true_eq_false, reduceCtorEq, false_iff, true_iff, iff_true, iff_false, and_true, true_and, and_false, false_and, reduceIte, ite_true, ite_false, eq_self] at *)) <;> omega)), trivial⟩
      · have mh11 := nle_mx h11
        refine wa_aload_n (i := 0) rfl rfl ?_
        refine wa_geti ck_7 fl_7_62 ly_75 ?_
        refine wa_if_ne o_X7_check_76 (by decide) (fun h17 => ?_) (fun h17 => ?_)
        · refine wa_aload_n (i := 0) rfl rfl ?_
          refine wa_geti ck_7 fl_7_62 ly_75 ?_
          refine wa_if_eq o_X7_check_85 (by decide) (fun h18 => ?_) (fun h18 => ?_)
          · refine wa_aload_n (i := 0) rfl rfl ?_
            refine wa_geti ck_7 fl_7_56 ly_75 ?_
            refine wa_if_ne o_X7_check_103 (by decide) (fun h19 => ?_) (fun h19 => ?_)
            · refine wa_iconst (v := 0) (by decide) ?_
              refine wa_ireturn rfl rfl ?_
              exact ⟨_, rfl, Fs8, (by rw [khi10_0]; first | assumption | (((try simp only [vp_in_iff, Int32.lt_iff_toInt_lt, Int32.le_iff_toInt_le, ← Int32.toInt_inj, Int32.reduceToInt, n_1, n_2, n_8, Int32.toNatClampNeg, Int64.lt_iff_toInt_lt, Int64.le_iff_toInt_le, ← Int64.toInt_inj, Int64.reduceToInt, Int32.toInt_toInt64, lg_cmp_ge, lg_cmp_le, lg_cmp_gt, lg_cmp_lt, lg_cmp_eq, Bool.false_eq_true, Bool.true_eq_false, reduceCtorEq, false_iff, true_iff, iff_true, iff_false, and_true, true_and, and_false, false_and, reduceIte, ite_true, ite_false, eq_self] at *)) <;> omega)), (by rw [khi10_1]; first | assumption | (((try simp only [vp_in_iff, Int32.lt_iff_toInt_lt, Int32.le_iff_toInt_le, ← Int32.toInt_inj, Int32.reduceToInt, n_1, n_2, n_8, Int32.toNatClampNeg, Int64.lt_iff_toInt_lt, Int64.le_iff_toInt_le, ← Int64.toInt_inj, Int64.reduceToInt, Int32.toInt_toInt64, lg_cmp_ge, lg_cmp_le, lg_cmp_gt, lg_cmp_lt, lg_cmp_eq, Bool.false_eq_true, Bool.true_eq_false, reduceCtorEq, false_iff, true_iff, iff_true, iff_false, and_true, true_and, and_false, false_and, reduceIte, ite_true, ite_false, eq_self] at *)) <;> omega)), (by rw [khi10_2]; first | assumption | (((try simp only [vp_in_iff, Int32.lt_iff_toInt_lt, Int32.le_iff_toInt_le, ← Int32.toInt_inj, Int32.reduceToInt, n_1, n_2, n_8, Int32.toNatClampNeg, Int64.lt_iff_toInt_lt, Int64.le_iff_toInt_le, ← Int64.toInt_inj, Int64.reduceToInt, Int32.toInt_toInt64, lg_cmp_ge, lg_cmp_le, lg_cmp_gt, lg_cmp_lt, lg_cmp_eq, Bool.false_eq_true, Bool.true_eq_false, reduceCtorEq, false_iff, true_iff, iff_true, iff_false, and_true, true_and, and_false, false_and, reduceIte, ite_true, ite_false, eq_self] at *)) <;> omega)), trivial⟩
            · refine wa_aload_n (i := 0) rfl rfl ?_
              refine wa_Vi (d9 := d - 1) [] [] (sp_X7_isLatestFalse G (d := d - 1) (by omega) s8 ) (rfl) rfl rfl (zr (by omega)) mk_X7_isLatestFalse ly_75 ml_7_75 (Nat.le_of_ble_eq_true rfl) (fun x21 s20 hs20 => ?_)
              obtain ⟨bx21, ex21, zs20, -⟩ := pB hs20
              subst ex21
              subst zs20
              refine wa_if_eq o_X7_check_103 (by decide) (fun h22 => ?_) (fun h22 => ?_)
              · replace h22 := bI_f (b := bx21) (rfl) h22
                refine wa_iconst (v := 0) (by decide) ?_
                refine wa_ireturn rfl rfl ?_
                exact ⟨_, rfl, Fs8, (by rw [khi10_0]; first | assumption | (((try simp only [vp_in_iff, Int32.lt_iff_toInt_lt, Int32.le_iff_toInt_le, ← Int32.toInt_inj, Int32.reduceToInt, n_1, n_2, n_8, Int32.toNatClampNeg, Int64.lt_iff_toInt_lt, Int64.le_iff_toInt_le, ← Int64.toInt_inj, Int64.reduceToInt, Int32.toInt_toInt64, lg_cmp_ge, lg_cmp_le, lg_cmp_gt, lg_cmp_lt, lg_cmp_eq, Bool.false_eq_true, Bool.true_eq_false, reduceCtorEq, false_iff, true_iff, iff_true, iff_false, and_true, true_and, and_false, false_and, reduceIte, ite_true, ite_false, eq_self] at *)) <;> omega)), (by rw [khi10_1]; first | assumption | (((try simp only [vp_in_iff, Int32.lt_iff_toInt_lt, Int32.le_iff_toInt_le, ← Int32.toInt_inj, Int32.reduceToInt, n_1, n_2, n_8, Int32.toNatClampNeg, Int64.lt_iff_toInt_lt, Int64.le_iff_toInt_le, ← Int64.toInt_inj, Int64.reduceToInt, Int32.toInt_toInt64, lg_cmp_ge, lg_cmp_le, lg_cmp_gt, lg_cmp_lt, lg_cmp_eq, Bool.false_eq_true, Bool.true_eq_false, reduceCtorEq, false_iff, true_iff, iff_true, iff_false, and_true, true_and, and_false, false_and, reduceIte, ite_true, ite_false, eq_self] at *)) <;> omega)), (by rw [khi10_2]; first | assumption | (((try simp only [vp_in_iff, Int32.lt_iff_toInt_lt, Int32.le_iff_toInt_le, ← Int32.toInt_inj, Int32.reduceToInt, n_1, n_2, n_8, Int32.toNatClampNeg, Int64.lt_iff_toInt_lt, Int64.le_iff_toInt_le, ← Int64.toInt_inj, Int64.reduceToInt, Int32.toInt_toInt64, lg_cmp_ge, lg_cmp_le, lg_cmp_gt, lg_cmp_lt, lg_cmp_eq, Bool.false_eq_true, Bool.true_eq_false, reduceCtorEq, false_iff, true_iff, iff_true, iff_false, and_true, true_and, and_false, false_and, reduceIte, ite_true, ite_false, eq_self] at *)) <;> omega)), trivial⟩
              · replace h22 := bI_t (b := bx21) (rfl) h22
                refine wa_iconst (v := 1) (by decide) ?_
                refine wa_goto o_X7_check_104 (by decide) ?_
                refine wa_ireturn rfl rfl ?_
                exact ⟨_, rfl, Fs8, (by rw [khi10_0]; first | assumption | (((try simp only [vp_in_iff, Int32.lt_iff_toInt_lt, Int32.le_iff_toInt_le, ← Int32.toInt_inj, Int32.reduceToInt, n_1, n_2, n_8, Int32.toNatClampNeg, Int64.lt_iff_toInt_lt, Int64.le_iff_toInt_le, ← Int64.toInt_inj, Int64.reduceToInt, Int32.toInt_toInt64, lg_cmp_ge, lg_cmp_le, lg_cmp_gt, lg_cmp_lt, lg_cmp_eq, Bool.false_eq_true, Bool.true_eq_false, reduceCtorEq, false_iff, true_iff, iff_true, iff_false, and_true, true_and, and_false, false_and, reduceIte, ite_true, ite_false, eq_self] at *)) <;> omega)), (by rw [khi10_1]; first | assumption | (((try simp only [vp_in_iff, Int32.lt_iff_toInt_lt, Int32.le_iff_toInt_le, ← Int32.toInt_inj, Int32.reduceToInt, n_1, n_2, n_8, Int32.toNatClampNeg, Int64.lt_iff_toInt_lt, Int64.le_iff_toInt_le, ← Int64.toInt_inj, Int64.reduceToInt, Int32.toInt_toInt64, lg_cmp_ge, lg_cmp_le, lg_cmp_gt, lg_cmp_lt, lg_cmp_eq, Bool.false_eq_true, Bool.true_eq_false, reduceCtorEq, false_iff, true_iff, iff_true, iff_false, and_true, true_and, and_false, false_and, reduceIte, ite_true, ite_false, eq_self] at *)) <;> omega)), (by rw [khi10_2]; first | assumption | (((try simp only [vp_in_iff, Int32.lt_iff_toInt_lt, Int32.le_iff_toInt_le, ← Int32.toInt_inj, Int32.reduceToInt, n_1, n_2, n_8, Int32.toNatClampNeg, Int64.lt_iff_toInt_lt, Int64.le_iff_toInt_le, ← Int64.toInt_inj, Int64.reduceToInt, Int32.toInt_toInt64, lg_cmp_ge, lg_cmp_le, lg_cmp_gt, lg_cmp_lt, lg_cmp_eq, Bool.false_eq_true, Bool.true_eq_false, reduceCtorEq, false_iff, true_iff, iff_true, iff_false, and_true, true_and, and_false, false_and, reduceIte, ite_true, ite_false, eq_self] at *)) <;> omega)), trivial⟩
          · refine wa_iconst (v := (-1)) (by decide) ?_
            refine wa_ireturn rfl rfl ?_
            exact ⟨_, rfl, Fs8, (by rw [khi10_0]; first | assumption | (((try simp only [vp_in_iff, Int32.lt_iff_toInt_lt, Int32.le_iff_toInt_le, ← Int32.toInt_inj, Int32.reduceToInt, n_1, n_2, n_8, Int32.toNatClampNeg, Int64.lt_iff_toInt_lt, Int64.le_iff_toInt_le, ← Int64.toInt_inj, Int64.reduceToInt, Int32.toInt_toInt64, lg_cmp_ge, lg_cmp_le, lg_cmp_gt, lg_cmp_lt, lg_cmp_eq, Bool.false_eq_true, Bool.true_eq_false, reduceCtorEq, false_iff, true_iff, iff_true, iff_false, and_true, true_and, and_false, false_and, reduceIte, ite_true, ite_false, eq_self] at *)) <;> omega)), (by rw [khi10_1]; first | assumption | (((try simp only [vp_in_iff, Int32.lt_iff_toInt_lt, Int32.le_iff_toInt_le, ← Int32.toInt_inj, Int32.reduceToInt, n_1, n_2, n_8, Int32.toNatClampNeg, Int64.lt_iff_toInt_lt, Int64.le_iff_toInt_le, ← Int64.toInt_inj, Int64.reduceToInt, Int32.toInt_toInt64, lg_cmp_ge, lg_cmp_le, lg_cmp_gt, lg_cmp_lt, lg_cmp_eq, Bool.false_eq_true, Bool.true_eq_false, reduceCtorEq, false_iff, true_iff, iff_true, iff_false, and_true, true_and, and_false, false_and, reduceIte, ite_true, ite_false, eq_self] at *)) <;> omega)), (by rw [khi10_2]; first | assumption | (((try simp only [vp_in_iff, Int32.lt_iff_toInt_lt, Int32.le_iff_toInt_le, ← Int32.toInt_inj, Int32.reduceToInt, n_1, n_2, n_8, Int32.toNatClampNeg, Int64.lt_iff_toInt_lt, Int64.le_iff_toInt_le, ← Int64.toInt_inj, Int64.reduceToInt, Int32.toInt_toInt64, lg_cmp_ge, lg_cmp_le, lg_cmp_gt, lg_cmp_lt, lg_cmp_eq, Bool.false_eq_true, Bool.true_eq_false, reduceCtorEq, false_iff, true_iff, iff_true, iff_false, and_true, true_and, and_false, false_and, reduceIte, ite_true, ite_false, eq_self] at *)) <;> omega)), trivial⟩
        · refine wa_aload_n (i := 0) rfl rfl ?_
          refine wa_getr ck_7 fl_7_38 ly_75 rf_75_0 ?_
          refine wa_aload_n (i := 0) rfl rfl ?_
          refine wa_geti ck_7 fl_7_59 ly_75 ?_
          refine wa_Vi (d9 := d - 1) [.int _] [] (sp_X3_kindAt G (d := d - 1) (by omega) s8 _ (by rw [khi10_3]; first | assumption | exact Or.inl rfl | exact Or.inr rfl | (((try simp only [vp_in_iff, Int32.lt_iff_toInt_lt, Int32.le_iff_toInt_le, ← Int32.toInt_inj, Int32.reduceToInt, n_1, n_2, n_8, Int32.toNatClampNeg, Int64.lt_iff_toInt_lt, Int64.le_iff_toInt_le, ← Int64.toInt_inj, Int64.reduceToInt, Int32.toInt_toInt64, lg_cmp_ge, lg_cmp_le, lg_cmp_gt, lg_cmp_lt, lg_cmp_eq, Bool.false_eq_true, Bool.true_eq_false, reduceCtorEq, false_iff, true_iff, iff_true, iff_false, and_true, true_and, and_false, false_and, reduceIte, ite_true, ite_false, eq_self] at *)) <;> omega))) (rfl) rfl rfl (zr (by omega)) mk_X3_kindAt ly_18 ml_7_68 (Nat.le_of_ble_eq_true rfl) (fun x24 s23 hs23 => ?_)
          obtain ⟨zs23, -⟩ := pI hs23
          subst zs23
          refine wa_if_eq o_X7_check_76 (by decide) (fun h25 => ?_) (fun h25 => ?_)
          · refine wa_aload_n (i := 0) rfl rfl ?_
            refine wa_geti ck_7 fl_7_62 ly_75 ?_
            refine wa_if_eq o_X7_check_85 (by decide) (fun h26 => ?_) (fun h26 => ?_)
            · refine wa_aload_n (i := 0) rfl rfl ?_
              refine wa_geti ck_7 fl_7_56 ly_75 ?_
              refine wa_if_ne o_X7_check_103 (by decide) (fun h27 => ?_) (fun h27 => ?_)
              · refine wa_iconst (v := 0) (by decide) ?_
                refine wa_ireturn rfl rfl ?_
                exact ⟨_, rfl, Fs8, (by rw [khi10_0]; first | assumption | (((try simp only [vp_in_iff, Int32.lt_iff_toInt_lt, Int32.le_iff_toInt_le, ← Int32.toInt_inj, Int32.reduceToInt, n_1, n_2, n_8, Int32.toNatClampNeg, Int64.lt_iff_toInt_lt, Int64.le_iff_toInt_le, ← Int64.toInt_inj, Int64.reduceToInt, Int32.toInt_toInt64, lg_cmp_ge, lg_cmp_le, lg_cmp_gt, lg_cmp_lt, lg_cmp_eq, Bool.false_eq_true, Bool.true_eq_false, reduceCtorEq, false_iff, true_iff, iff_true, iff_false, and_true, true_and, and_false, false_and, reduceIte, ite_true, ite_false, eq_self] at *)) <;> omega)), (by rw [khi10_1]; first | assumption | (((try simp only [vp_in_iff, Int32.lt_iff_toInt_lt, Int32.le_iff_toInt_le, ← Int32.toInt_inj, Int32.reduceToInt, n_1, n_2, n_8, Int32.toNatClampNeg, Int64.lt_iff_toInt_lt, Int64.le_iff_toInt_le, ← Int64.toInt_inj, Int64.reduceToInt, Int32.toInt_toInt64, lg_cmp_ge, lg_cmp_le, lg_cmp_gt, lg_cmp_lt, lg_cmp_eq, Bool.false_eq_true, Bool.true_eq_false, reduceCtorEq, false_iff, true_iff, iff_true, iff_false, and_true, true_and, and_false, false_and, reduceIte, ite_true, ite_false, eq_self] at *)) <;> omega)), (by rw [khi10_2]; first | assumption | (((try simp only [vp_in_iff, Int32.lt_iff_toInt_lt, Int32.le_iff_toInt_le, ← Int32.toInt_inj, Int32.reduceToInt, n_1, n_2, n_8, Int32.toNatClampNeg, Int64.lt_iff_toInt_lt, Int64.le_iff_toInt_le, ← Int64.toInt_inj, Int64.reduceToInt, Int32.toInt_toInt64, lg_cmp_ge, lg_cmp_le, lg_cmp_gt, lg_cmp_lt, lg_cmp_eq, Bool.false_eq_true, Bool.true_eq_false, reduceCtorEq, false_iff, true_iff, iff_true, iff_false, and_true, true_and, and_false, false_and, reduceIte, ite_true, ite_false, eq_self] at *)) <;> omega)), trivial⟩
              · refine wa_aload_n (i := 0) rfl rfl ?_
                refine wa_Vi (d9 := d - 1) [] [] (sp_X7_isLatestFalse G (d := d - 1) (by omega) s8 ) (rfl) rfl rfl (zr (by omega)) mk_X7_isLatestFalse ly_75 ml_7_75 (Nat.le_of_ble_eq_true rfl) (fun x29 s28 hs28 => ?_)
                obtain ⟨bx29, ex29, zs28, -⟩ := pB hs28
                subst ex29
                subst zs28
                refine wa_if_eq o_X7_check_103 (by decide) (fun h30 => ?_) (fun h30 => ?_)
                · replace h30 := bI_f (b := bx29) (rfl) h30
                  refine wa_iconst (v := 0) (by decide) ?_
                  refine wa_ireturn rfl rfl ?_
                  exact ⟨_, rfl, Fs8, (by rw [khi10_0]; first | assumption | (((try simp only [vp_in_iff, Int32.lt_iff_toInt_lt, Int32.le_iff_toInt_le, ← Int32.toInt_inj, Int32.reduceToInt, n_1, n_2, n_8, Int32.toNatClampNeg, Int64.lt_iff_toInt_lt, Int64.le_iff_toInt_le, ← Int64.toInt_inj, Int64.reduceToInt, Int32.toInt_toInt64, lg_cmp_ge, lg_cmp_le, lg_cmp_gt, lg_cmp_lt, lg_cmp_eq, Bool.false_eq_true, Bool.true_eq_false, reduceCtorEq, false_iff, true_iff, iff_true, iff_false, and_true, true_and, and_false, false_and, reduceIte, ite_true, ite_false, eq_self] at *)) <;> omega)), (by rw [khi10_1]; first | assumption | (((try simp only [vp_in_iff, Int32.lt_iff_toInt_lt, Int32.le_iff_toInt_le, ← Int32.toInt_inj, Int32.reduceToInt, n_1, n_2, n_8, Int32.toNatClampNeg, Int64.lt_iff_toInt_lt, Int64.le_iff_toInt_le, ← Int64.toInt_inj, Int64.reduceToInt, Int32.toInt_toInt64, lg_cmp_ge, lg_cmp_le, lg_cmp_gt, lg_cmp_lt, lg_cmp_eq, Bool.false_eq_true, Bool.true_eq_false, reduceCtorEq, false_iff, true_iff, iff_true, iff_false, and_true, true_and, and_false, false_and, reduceIte, ite_true, ite_false, eq_self] at *)) <;> omega)), (by rw [khi10_2]; first | assumption | (((try simp only [vp_in_iff, Int32.lt_iff_toInt_lt, Int32.le_iff_toInt_le, ← Int32.toInt_inj, Int32.reduceToInt, n_1, n_2, n_8, Int32.toNatClampNeg, Int64.lt_iff_toInt_lt, Int64.le_iff_toInt_le, ← Int64.toInt_inj, Int64.reduceToInt, Int32.toInt_toInt64, lg_cmp_ge, lg_cmp_le, lg_cmp_gt, lg_cmp_lt, lg_cmp_eq, Bool.false_eq_true, Bool.true_eq_false, reduceCtorEq, false_iff, true_iff, iff_true, iff_false, and_true, true_and, and_false, false_and, reduceIte, ite_true, ite_false, eq_self] at *)) <;> omega)), trivial⟩
                · replace h30 := bI_t (b := bx29) (rfl) h30
                  refine wa_iconst (v := 1) (by decide) ?_
                  refine wa_goto o_X7_check_104 (by decide) ?_
                  refine wa_ireturn rfl rfl ?_
                  exact ⟨_, rfl, Fs8, (by rw [khi10_0]; first | assumption | (((try simp only [vp_in_iff, Int32.lt_iff_toInt_lt, Int32.le_iff_toInt_le, ← Int32.toInt_inj, Int32.reduceToInt, n_1, n_2, n_8, Int32.toNatClampNeg, Int64.lt_iff_toInt_lt, Int64.le_iff_toInt_le, ← Int64.toInt_inj, Int64.reduceToInt, Int32.toInt_toInt64, lg_cmp_ge, lg_cmp_le, lg_cmp_gt, lg_cmp_lt, lg_cmp_eq, Bool.false_eq_true, Bool.true_eq_false, reduceCtorEq, false_iff, true_iff, iff_true, iff_false, and_true, true_and, and_false, false_and, reduceIte, ite_true, ite_false, eq_self] at *)) <;> omega)), (by rw [khi10_1]; first | assumption | (((try simp only [vp_in_iff, Int32.lt_iff_toInt_lt, Int32.le_iff_toInt_le, ← Int32.toInt_inj, Int32.reduceToInt, n_1, n_2, n_8, Int32.toNatClampNeg, Int64.lt_iff_toInt_lt, Int64.le_iff_toInt_le, ← Int64.toInt_inj, Int64.reduceToInt, Int32.toInt_toInt64, lg_cmp_ge, lg_cmp_le, lg_cmp_gt, lg_cmp_lt, lg_cmp_eq, Bool.false_eq_true, Bool.true_eq_false, reduceCtorEq, false_iff, true_iff, iff_true, iff_false, and_true, true_and, and_false, false_and, reduceIte, ite_true, ite_false, eq_self] at *)) <;> omega)), (by rw [khi10_2]; first | assumption | (((try simp only [vp_in_iff, Int32.lt_iff_toInt_lt, Int32.le_iff_toInt_le, ← Int32.toInt_inj, Int32.reduceToInt, n_1, n_2, n_8, Int32.toNatClampNeg, Int64.lt_iff_toInt_lt, Int64.le_iff_toInt_le, ← Int64.toInt_inj, Int64.reduceToInt, Int32.toInt_toInt64, lg_cmp_ge, lg_cmp_le, lg_cmp_gt, lg_cmp_lt, lg_cmp_eq, Bool.false_eq_true, Bool.true_eq_false, reduceCtorEq, false_iff, true_iff, iff_true, iff_false, and_true, true_and, and_false, false_and, reduceIte, ite_true, ite_false, eq_self] at *)) <;> omega)), trivial⟩
            · refine wa_iconst (v := (-1)) (by decide) ?_
              refine wa_ireturn rfl rfl ?_
              exact ⟨_, rfl, Fs8, (by rw [khi10_0]; first | assumption | (((try simp only [vp_in_iff, Int32.lt_iff_toInt_lt, Int32.le_iff_toInt_le, ← Int32.toInt_inj, Int32.reduceToInt, n_1, n_2, n_8, Int32.toNatClampNeg, Int64.lt_iff_toInt_lt, Int64.le_iff_toInt_le, ← Int64.toInt_inj, Int64.reduceToInt, Int32.toInt_toInt64, lg_cmp_ge, lg_cmp_le, lg_cmp_gt, lg_cmp_lt, lg_cmp_eq, Bool.false_eq_true, Bool.true_eq_false, reduceCtorEq, false_iff, true_iff, iff_true, iff_false, and_true, true_and, and_false, false_and, reduceIte, ite_true, ite_false, eq_self] at *)) <;> omega)), (by rw [khi10_1]; first | assumption | (((try simp only [vp_in_iff, Int32.lt_iff_toInt_lt, Int32.le_iff_toInt_le, ← Int32.toInt_inj, Int32.reduceToInt, n_1, n_2, n_8, Int32.toNatClampNeg, Int64.lt_iff_toInt_lt, Int64.le_iff_toInt_le, ← Int64.toInt_inj, Int64.reduceToInt, Int32.toInt_toInt64, lg_cmp_ge, lg_cmp_le, lg_cmp_gt, lg_cmp_lt, lg_cmp_eq, Bool.false_eq_true, Bool.true_eq_false, reduceCtorEq, false_iff, true_iff, iff_true, iff_false, and_true, true_and, and_false, false_and, reduceIte, ite_true, ite_false, eq_self] at *)) <;> omega)), (by rw [khi10_2]; first | assumption | (((try simp only [vp_in_iff, Int32.lt_iff_toInt_lt, Int32.le_iff_toInt_le, ← Int32.toInt_inj, Int32.reduceToInt, n_1, n_2, n_8, Int32.toNatClampNeg, Int64.lt_iff_toInt_lt, Int64.le_iff_toInt_le, ← Int64.toInt_inj, Int64.reduceToInt, Int32.toInt_toInt64, lg_cmp_ge, lg_cmp_le, lg_cmp_gt, lg_cmp_lt, lg_cmp_eq, Bool.false_eq_true, Bool.true_eq_false, reduceCtorEq, false_iff, true_iff, iff_true, iff_false, and_true, true_and, and_false, false_and, reduceIte, ite_true, ite_false, eq_self] at *)) <;> omega)), trivial⟩
          · refine wa_aload_n (i := 0) rfl rfl ?_
            refine wa_Vv (d9 := d - 1) [] [] (sp_X7_readLine G (d := d - 1) (by omega) s8  (by rw [khi10_3]; first | assumption | exact Or.inl rfl | exact Or.inr rfl | (((try simp only [vp_in_iff, Int32.lt_iff_toInt_lt, Int32.le_iff_toInt_le, ← Int32.toInt_inj, Int32.reduceToInt, n_1, n_2, n_8, Int32.toNatClampNeg, Int64.lt_iff_toInt_lt, Int64.le_iff_toInt_le, ← Int64.toInt_inj, Int64.reduceToInt, Int32.toInt_toInt64, lg_cmp_ge, lg_cmp_le, lg_cmp_gt, lg_cmp_lt, lg_cmp_eq, Bool.false_eq_true, Bool.true_eq_false, reduceCtorEq, false_iff, true_iff, iff_true, iff_false, and_true, true_and, and_false, false_and, reduceIte, ite_true, ite_false, eq_self] at *)) <;> omega))) (rfl) rfl rfl (zr (by omega)) mk_X7_readLine ly_75 ml_7_72 (Nat.le_of_ble_eq_true rfl) (fun s31 hs31 => ?_)
            obtain ⟨fs31, -⟩ := hs31
            have Fs31 := Sm.tr Fs8 (Sm.wd fs31 (lo' := 18) (hi' := 84) (by decide) (by decide))
            refine wa_iinc (v := (1)) (lv' := fun y33 => [(3, .int y33), (0, .ref 75)]) (by decide) rfl (by decide) (fun _ => rfl) (fun y33 hy33 => ?_)
            have ty33 := i_addT hy33.symm
            clear hy33
            refine wa_goto o_X7_check_38 (by decide) ?_
            refine wa_pick [1, 0] rfl ?_
            exact ih9 _ (by ((try simp only [vp_in_iff, Int32.lt_iff_toInt_lt, Int32.le_iff_toInt_le, ← Int32.toInt_inj, Int32.reduceToInt, n_1, n_2, n_8, Int32.toNatClampNeg, Int64.lt_iff_toInt_lt, Int64.le_iff_toInt_le, ← Int64.toInt_inj, Int64.reduceToInt, Int32.toInt_toInt64, lg_cmp_ge, lg_cmp_le, lg_cmp_gt, lg_cmp_lt, lg_cmp_eq, Bool.false_eq_true, Bool.true_eq_false, reduceCtorEq, false_iff, true_iff, iff_true, iff_false, and_true, true_and, and_false, false_and, reduceIte, ite_true, ite_false, eq_self] at *)) <;> omega) _ _ ⟨Fs31, ((Sm.gi fs31 13 (Or.inl (by decide))).trans (khi10_0)), ((Sm.gi fs31 15 (Or.inl (by decide))).trans (khi10_1)), ((Sm.gi fs31 12 (Or.inl (by decide))).trans (khi10_2)), ((Sm.gi fs31 5 (Or.inl (by decide))).trans (khi10_3)), (by ((try simp only [vp_in_iff, Int32.lt_iff_toInt_lt, Int32.le_iff_toInt_le, ← Int32.toInt_inj, Int32.reduceToInt, n_1, n_2, n_8, Int32.toNatClampNeg, Int64.lt_iff_toInt_lt, Int64.le_iff_toInt_le, ← Int64.toInt_inj, Int64.reduceToInt, Int32.toInt_toInt64, lg_cmp_ge, lg_cmp_le, lg_cmp_gt, lg_cmp_lt, lg_cmp_eq, Bool.false_eq_true, Bool.true_eq_false, reduceCtorEq, false_iff, true_iff, iff_true, iff_false, and_true, true_and, and_false, false_and, reduceIte, ite_true, ite_false, eq_self] at *)) <;> omega), trivial⟩ rfl
  exact hi10 _ _ _ ⟨Fs7, ((nxq_gi_si hs7 (by decide)).trans ((nxq_gi_si hs6 (by decide)).trans ((nxq_gi_si hs5 (by decide)).trans ((nxq_gi_si hs4 (by decide)).trans ((nxq_gi_si hs3 (by decide)).trans (Sm.gi fs1 13 (Or.inr (by decide)))))))), ((nxq_gi_si hs7 (by decide)).trans ((nxq_gi_si hs6 (by decide)).trans ((nxq_gi_si hs5 (by decide)).trans ((nxq_gi_si hs4 (by decide)).trans ((nxq_gi_si hs3 (by decide)).trans (Sm.gi fs1 15 (Or.inr (by decide)))))))), ((nxq_gi_si hs7 (by decide)).trans ((nxq_gi_si hs6 (by decide)).trans ((nxq_gi_si hs5 (by decide)).trans ((nxq_gi_si hs4 (by decide)).trans ((nxq_gi_si hs3 (by decide)).trans (Sm.gi fs1 12 (Or.inr (by decide)))))))), ((nxq_gi_si hs7 (by decide)).trans ((nxq_gi_si hs6 (by decide)).trans ((nxq_gi_si hs5 (by decide)).trans ((nxq_gi_si hs4 (by decide)).trans (nxq_gi_si hs3 (by decide)))))), (by ((try simp only [vp_in_iff, Int32.lt_iff_toInt_lt, Int32.le_iff_toInt_le, ← Int32.toInt_inj, Int32.reduceToInt, n_1, n_2, n_8, Int32.toNatClampNeg, Int64.lt_iff_toInt_lt, Int64.le_iff_toInt_le, ← Int64.toInt_inj, Int64.reduceToInt, Int32.toInt_toInt64, lg_cmp_ge, lg_cmp_le, lg_cmp_gt, lg_cmp_lt, lg_cmp_eq, Bool.false_eq_true, Bool.true_eq_false, reduceCtorEq, false_iff, true_iff, iff_true, iff_false, and_true, true_and, and_false, false_and, reduceIte, ite_true, ite_false, eq_self] at *)) <;> omega), trivial⟩ rfl
set_option maxHeartbeats 4000000 in
theorem sp_X8_next (G : kG9) {d : Nat} (hd : 0 ≤ d) (σ : St) : Ct G M_X8_next d [.ref 30] σ (fun r σ' => Fm [30] [] σ σ' ∧ True) := by
  refine wa_start (by decide) rfl (Nat.le_of_ble_eq_true rfl) (lv := [(0, .ref 30)]) rfl o_X8_next_0 rfl ?_
  refine wa_aload_n (i := 0) rfl rfl ?_
  refine wa_aload_n (i := 0) rfl rfl ?_
  refine wa_geti ck_8 fl_8_79 ly_30 ?_
  refine wa_aload_n (i := 0) rfl rfl ?_
  refine wa_getr ck_8 fl_8_9 ly_30 rf_30_0 ?_
  refine wa_geti ck_3 fl_8_126 ly_18 ?_
  refine wa_icmp_ge o_X8_next_24 (by decide) (fun h1 => ?_) (fun h1 => ?_)
  · refine wa_aload_n (i := 0) rfl rfl ?_
    refine wa_geti ck_8 fl_8_79 ly_30 ?_
    refine wa_puti ck_8 fl_8_79 ly_30 (fun s2 hs2 => ?_)
    have Fs2 : Fm [30] [] σ s2 := by rw [hs2]; exact Fm.si (Fm.rf [30] [] σ) rfl
    refine wa_aload_n (i := 0) rfl rfl ?_
    refine wa_geti ck_8 fl_8_79 ly_30 ?_
    refine wa_rw (nxe_gi_si hs2) ?_
    refine wa_if_lt o_X8_next_80 (by decide) (fun h3 => ?_) (fun h3 => ?_)
    · refine wa_return (st := []) rfl rfl ?_
      exact ⟨Fs2, trivial⟩
    · refine wa_aload_n (i := 0) rfl rfl ?_
      refine wa_geti ck_8 fl_8_79 ly_30 ?_
      refine wa_rw (nxe_gi_si hs2) ?_
      refine wa_sipush (v := 2000) (by decide) ?_
      refine wa_icmp_gt o_X8_next_80 (by decide) (fun h4 => ?_) (fun h4 => ?_)
      · refine wa_return (st := []) rfl rfl ?_
        exact ⟨Fs2, trivial⟩
      · refine wa_aload_n (i := 0) rfl rfl ?_
        refine wa_aload_n (i := 0) rfl rfl ?_
        refine wa_getr ck_8 fl_8_9 ly_30 rf_30_0 ?_
        refine wa_getr ck_3 fl_8_129 ly_18 rf_18_1 ?_
        refine wa_aload_n (i := 0) rfl rfl ?_
        refine wa_geti ck_8 fl_8_79 ly_30 ?_
        refine wa_rw (nxe_gi_si hs2) ?_
        refine wa_iald ly_20 (by ((try simp only [vp_in_iff, Int32.lt_iff_toInt_lt, Int32.le_iff_toInt_le, ← Int32.toInt_inj, Int32.reduceToInt, n_1, n_2, n_8, Int32.toNatClampNeg, Int64.lt_iff_toInt_lt, Int64.le_iff_toInt_le, ← Int64.toInt_inj, Int64.reduceToInt, Int32.toInt_toInt64, lg_cmp_ge, lg_cmp_le, lg_cmp_gt, lg_cmp_lt, lg_cmp_eq, Bool.false_eq_true, Bool.true_eq_false, reduceCtorEq, false_iff, true_iff, iff_true, iff_false, and_true, true_and, and_false, false_and, reduceIte, ite_true, ite_false, eq_self] at *)) <;> omega) ?_
        refine wa_puti ck_8 fl_8_39 ly_30 (fun s5 hs5 => ?_)
        have Fs5 : Fm [30] [] σ s5 := by rw [hs5]; exact Fm.si Fs2 rfl
        refine wa_aload_n (i := 0) rfl rfl ?_
        refine wa_aload_n (i := 0) rfl rfl ?_
        refine wa_getr ck_8 fl_8_9 ly_30 rf_30_0 ?_
        refine wa_getr ck_3 fl_8_133 ly_18 rf_18_2 ?_
        refine wa_aload_n (i := 0) rfl rfl ?_
        refine wa_geti ck_8 fl_8_79 ly_30 ?_
        refine wa_rw ((nxk_gi_si hs5 (by decide)).trans (nxe_gi_si hs2)) ?_
        refine wa_iald ly_21 (by ((try simp only [vp_in_iff, Int32.lt_iff_toInt_lt, Int32.le_iff_toInt_le, ← Int32.toInt_inj, Int32.reduceToInt, n_1, n_2, n_8, Int32.toNatClampNeg, Int64.lt_iff_toInt_lt, Int64.le_iff_toInt_le, ← Int64.toInt_inj, Int64.reduceToInt, Int32.toInt_toInt64, lg_cmp_ge, lg_cmp_le, lg_cmp_gt, lg_cmp_lt, lg_cmp_eq, Bool.false_eq_true, Bool.true_eq_false, reduceCtorEq, false_iff, true_iff, iff_true, iff_false, and_true, true_and, and_false, false_and, reduceIte, ite_true, ite_false, eq_self] at *)) <;> omega) ?_
        refine wa_puti ck_8 fl_8_136 ly_30 (fun s6 hs6 => ?_)
        have Fs6 : Fm [30] [] σ s6 := by rw [hs6]; exact Fm.si Fs5 rfl
        refine wa_return (st := []) rfl rfl ?_
        exact ⟨Fs6, trivial⟩
  · have mh1 := nle_mx h1
    refine wa_aload_n (i := 0) rfl rfl ?_
    refine wa_geti ck_8 fl_8_79 ly_30 ?_
    refine wa_iconst (v := 1) (by decide) ?_
    refine wa_iadd ?_
    refine wa_top (fun v7 hv7 => ?_)
    have tv7 := i_addT hv7
    clear hv7
    refine wa_goto o_X8_next_28 (by decide) ?_
    refine wa_puti ck_8 fl_8_79 ly_30 (fun s8 hs8 => ?_)
    have Fs8 : Fm [30] [] σ s8 := by rw [hs8]; exact Fm.si (Fm.rf [30] [] σ) rfl
    refine wa_aload_n (i := 0) rfl rfl ?_
    refine wa_geti ck_8 fl_8_79 ly_30 ?_
    refine wa_rw (nxe_gi_si hs8) ?_
    refine wa_if_lt o_X8_next_80 (by decide) (fun h9 => ?_) (fun h9 => ?_)
    · refine wa_return (st := []) rfl rfl ?_
      exact ⟨Fs8, trivial⟩
    · refine wa_aload_n (i := 0) rfl rfl ?_
      refine wa_geti ck_8 fl_8_79 ly_30 ?_
      refine wa_rw (nxe_gi_si hs8) ?_
      refine wa_sipush (v := 2000) (by decide) ?_
      refine wa_icmp_gt o_X8_next_80 (by decide) (fun h10 => ?_) (fun h10 => ?_)
      · refine wa_return (st := []) rfl rfl ?_
        exact ⟨Fs8, trivial⟩
      · refine wa_aload_n (i := 0) rfl rfl ?_
        refine wa_aload_n (i := 0) rfl rfl ?_
        refine wa_getr ck_8 fl_8_9 ly_30 rf_30_0 ?_
        refine wa_getr ck_3 fl_8_129 ly_18 rf_18_1 ?_
        refine wa_aload_n (i := 0) rfl rfl ?_
        refine wa_geti ck_8 fl_8_79 ly_30 ?_
        refine wa_rw (nxe_gi_si hs8) ?_
        refine wa_iald ly_20 (by ((try simp only [vp_in_iff, Int32.lt_iff_toInt_lt, Int32.le_iff_toInt_le, ← Int32.toInt_inj, Int32.reduceToInt, n_1, n_2, n_8, Int32.toNatClampNeg, Int64.lt_iff_toInt_lt, Int64.le_iff_toInt_le, ← Int64.toInt_inj, Int64.reduceToInt, Int32.toInt_toInt64, lg_cmp_ge, lg_cmp_le, lg_cmp_gt, lg_cmp_lt, lg_cmp_eq, Bool.false_eq_true, Bool.true_eq_false, reduceCtorEq, false_iff, true_iff, iff_true, iff_false, and_true, true_and, and_false, false_and, reduceIte, ite_true, ite_false, eq_self] at *)) <;> omega) ?_
        refine wa_puti ck_8 fl_8_39 ly_30 (fun s11 hs11 => ?_)
        have Fs11 : Fm [30] [] σ s11 := by rw [hs11]; exact Fm.si Fs8 rfl
        refine wa_aload_n (i := 0) rfl rfl ?_
        refine wa_aload_n (i := 0) rfl rfl ?_
        refine wa_getr ck_8 fl_8_9 ly_30 rf_30_0 ?_
        refine wa_getr ck_3 fl_8_133 ly_18 rf_18_2 ?_
        refine wa_aload_n (i := 0) rfl rfl ?_
        refine wa_geti ck_8 fl_8_79 ly_30 ?_
        refine wa_rw ((nxk_gi_si hs11 (by decide)).trans (nxe_gi_si hs8)) ?_
        refine wa_iald ly_21 (by ((try simp only [vp_in_iff, Int32.lt_iff_toInt_lt, Int32.le_iff_toInt_le, ← Int32.toInt_inj, Int32.reduceToInt, n_1, n_2, n_8, Int32.toNatClampNeg, Int64.lt_iff_toInt_lt, Int64.le_iff_toInt_le, ← Int64.toInt_inj, Int64.reduceToInt, Int32.toInt_toInt64, lg_cmp_ge, lg_cmp_le, lg_cmp_gt, lg_cmp_lt, lg_cmp_eq, Bool.false_eq_true, Bool.true_eq_false, reduceCtorEq, false_iff, true_iff, iff_true, iff_false, and_true, true_and, and_false, false_and, reduceIte, ite_true, ite_false, eq_self] at *)) <;> omega) ?_
        refine wa_puti ck_8 fl_8_136 ly_30 (fun s12 hs12 => ?_)
        have Fs12 : Fm [30] [] σ s12 := by rw [hs12]; exact Fm.si Fs11 rfl
        refine wa_return (st := []) rfl rfl ?_
        exact ⟨Fs12, trivial⟩
set_option maxHeartbeats 4000000 in
theorem sp_X8_begin_at_1 (G : kG9) {d : Nat} (hd : 6 ≤ d) (σ : St) (a1 : Int32) (a2 : Int32) : Ct G M_X8_begin d [.ref 30, .ref 1, .int a1, .int a2] σ (fun r σ' => Fm [18, 19, 20, 21, 22, 23, 30] [] σ σ' ∧ ((gi σ' 18 5).toInt ≤ 2000) ∧ True) := by
  refine wa_start (by decide) rfl (Nat.le_of_ble_eq_true rfl) (lv := [(0, .ref 30), (1, .ref 1), (2, .int a1), (3, .int a2)]) rfl o_X8_begin_0 rfl ?_
  have ua1 := Int32.toInt_lt a1
  have wa1 := Int32.le_toInt a1
  have ua2 := Int32.toInt_lt a2
  have wa2 := Int32.le_toInt a2
  refine wa_aload_n (i := 0) rfl rfl ?_
  refine wa_getr ck_8 fl_8_9 ly_30 rf_30_0 ?_
  refine wa_aload_n (i := 1) rfl rfl ?_
  refine wa_iload_n (i := 2) rfl rfl ?_
  refine wa_iload_n (i := 3) rfl rfl ?_
  refine wa_iconst (v := 0) (by decide) ?_
  refine wa_Vv (d9 := d - 1) [.ref 1, .int _, .int _, .int (bI false)] [] (sp_X3_scan_at_1 G (d := d - 1) (by omega) σ _ _ false) (rfl) rfl rfl (zr (by omega)) mk_X3_scan ly_18 ml_8_119 (Nat.le_of_ble_eq_true rfl) (fun s1 hs1 => ?_)
  obtain ⟨fs1, cx2_1, -⟩ := hs1
  have Fs1 : Fm [18, 19, 20, 21, 22, 23, 30] [] σ s1 := Fm.tr (Fm.rf [18, 19, 20, 21, 22, 23, 30] [] σ) (Fm.ofSm fs1 rfl)
  refine wa_aload_n (i := 0) rfl rfl ?_
  refine wa_iconst (v := 0) (by decide) ?_
  refine wa_puti ck_8 fl_8_62 ly_30 (fun s3 hs3 => ?_)
  have Fs3 : Fm [18, 19, 20, 21, 22, 23, 30] [] σ s3 := by rw [hs3]; exact Fm.si Fs1 rfl
  refine wa_aload_n (i := 0) rfl rfl ?_
  refine wa_iconst (v := 0) (by decide) ?_
  refine wa_puti ck_8 fl_8_123 ly_30 (fun s4 hs4 => ?_)
  have Fs4 : Fm [18, 19, 20, 21, 22, 23, 30] [] σ s4 := by rw [hs4]; exact Fm.si Fs3 rfl
  refine wa_aload_n (i := 0) rfl rfl ?_
  refine wa_iconst (v := 0) (by decide) ?_
  refine wa_putz false (rfl) ck_8 fl_8_101 ly_30 (fun s5 hs5 => ?_)
  have Fs5 : Fm [18, 19, 20, 21, 22, 23, 30] [] σ s5 := by rw [hs5]; exact Fm.sb Fs4 rfl
  refine wa_aload_n (i := 0) rfl rfl ?_
  refine wa_iconst (v := (-1)) (by decide) ?_
  refine wa_puti ck_8 fl_8_79 ly_30 (fun s6 hs6 => ?_)
  have Fs6 : Fm [18, 19, 20, 21, 22, 23, 30] [] σ s6 := by rw [hs6]; exact Fm.si Fs5 rfl
  refine wa_aload_n (i := 0) rfl rfl ?_
  refine wa_Vv (d9 := d - 1) [] [] (sp_X8_next G (d := d - 1) (by omega) s6 ) (rfl) rfl rfl (zr (by omega)) mk_X8_next ly_30 ml_8_98 (Nat.le_of_ble_eq_true rfl) (fun s7 hs7 => ?_)
  obtain ⟨fs7, -⟩ := hs7
  have Fs7 : Fm [18, 19, 20, 21, 22, 23, 30] [] σ s7 := Fm.tr Fs6 (Fm.wd fs7 rfl rfl)
  refine wa_return (st := []) rfl rfl ?_
  exact ⟨Fs7, (by rw [(Fm.gi fs7 (q := 18) (k := 5) rfl rfl).trans ((nxq_gi_si hs6 (by decide)).trans ((nx_gi_sb hs5).trans ((nxq_gi_si hs4 (by decide)).trans (nxq_gi_si hs3 (by decide)))))]; first | assumption | (((try simp only [vp_in_iff, Int32.lt_iff_toInt_lt, Int32.le_iff_toInt_le, ← Int32.toInt_inj, Int32.reduceToInt, n_1, n_2, n_8, Int32.toNatClampNeg, Int64.lt_iff_toInt_lt, Int64.le_iff_toInt_le, ← Int64.toInt_inj, Int64.reduceToInt, Int32.toInt_toInt64, lg_cmp_ge, lg_cmp_le, lg_cmp_gt, lg_cmp_lt, lg_cmp_eq, Bool.false_eq_true, Bool.true_eq_false, reduceCtorEq, false_iff, true_iff, iff_true, iff_false, and_true, true_and, and_false, false_and, reduceIte, ite_true, ite_false, eq_self] at *)) <;> omega)), trivial⟩
set_option maxHeartbeats 4000000 in
theorem sp_X8_fail (G : kG9) {d : Nat} (hd : 0 ≤ d) (σ : St) (a0 : Int32) : Ct G M_X8_fail d [.ref 30, .int a0] σ (fun r σ' => Fm [30] [] σ σ' ∧ True) := by
  refine wa_start (by decide) rfl (Nat.le_of_ble_eq_true rfl) (lv := [(0, .ref 30), (1, .int a0)]) rfl o_X8_fail_0 rfl ?_
  have ua0 := Int32.toInt_lt a0
  have wa0 := Int32.le_toInt a0
  refine wa_aload_n (i := 0) rfl rfl ?_
  refine wa_geti ck_8 fl_8_62 ly_30 ?_
  refine wa_if_ne o_X8_fail_32 (by decide) (fun h1 => ?_) (fun h1 => ?_)
  · refine wa_aload_n (i := 0) rfl rfl ?_
    refine wa_bipush (v := 44) (by decide) ?_
    refine wa_puti ck_8 fl_8_39 ly_30 (fun s2 hs2 => ?_)
    have Fs2 : Fm [30] [] σ s2 := by rw [hs2]; exact Fm.si (Fm.rf [30] [] σ) rfl
    refine wa_return (st := []) rfl rfl ?_
    exact ⟨Fs2, trivial⟩
  · refine wa_aload_n (i := 0) rfl rfl ?_
    refine wa_aload_n (i := 0) rfl rfl ?_
    refine wa_geti ck_8 fl_8_39 ly_30 ?_
    refine wa_iconst (v := 3) (by decide) ?_
    refine wa_icmp_ne o_X8_fail_20 (by decide) (fun h3 => ?_) (fun h3 => ?_)
    · refine wa_iload_n (i := 1) rfl rfl ?_
      refine wa_puti ck_8 fl_8_62 ly_30 (fun s4 hs4 => ?_)
      have Fs4 : Fm [30] [] σ s4 := by rw [hs4]; exact Fm.si (Fm.rf [30] [] σ) rfl
      refine wa_aload_n (i := 0) rfl rfl ?_
      refine wa_aload_n (i := 0) rfl rfl ?_
      refine wa_geti ck_8 fl_8_136 ly_30 ?_
      refine wa_rw (nxk_gi_si hs4 (by decide)) ?_
      refine wa_puti ck_8 fl_8_123 ly_30 (fun s5 hs5 => ?_)
      have Fs5 : Fm [30] [] σ s5 := by rw [hs5]; exact Fm.si Fs4 rfl
      refine wa_aload_n (i := 0) rfl rfl ?_
      refine wa_bipush (v := 44) (by decide) ?_
      refine wa_puti ck_8 fl_8_39 ly_30 (fun s6 hs6 => ?_)
      have Fs6 : Fm [30] [] σ s6 := by rw [hs6]; exact Fm.si Fs5 rfl
      refine wa_return (st := []) rfl rfl ?_
      exact ⟨Fs6, trivial⟩
    · refine wa_iconst (v := 1) (by decide) ?_
      refine wa_goto o_X8_fail_21 (by decide) ?_
      refine wa_puti ck_8 fl_8_62 ly_30 (fun s7 hs7 => ?_)
      have Fs7 : Fm [30] [] σ s7 := by rw [hs7]; exact Fm.si (Fm.rf [30] [] σ) rfl
      refine wa_aload_n (i := 0) rfl rfl ?_
      refine wa_aload_n (i := 0) rfl rfl ?_
      refine wa_geti ck_8 fl_8_136 ly_30 ?_
      refine wa_rw (nxk_gi_si hs7 (by decide)) ?_
      refine wa_puti ck_8 fl_8_123 ly_30 (fun s8 hs8 => ?_)
      have Fs8 : Fm [30] [] σ s8 := by rw [hs8]; exact Fm.si Fs7 rfl
      refine wa_aload_n (i := 0) rfl rfl ?_
      refine wa_bipush (v := 44) (by decide) ?_
      refine wa_puti ck_8 fl_8_39 ly_30 (fun s9 hs9 => ?_)
      have Fs9 : Fm [30] [] σ s9 := by rw [hs9]; exact Fm.si Fs8 rfl
      refine wa_return (st := []) rfl rfl ?_
      exact ⟨Fs9, trivial⟩
set_option maxHeartbeats 4000000 in
theorem sp_X8_expectEnd (G : kG9) {d : Nat} (hd : 1 ≤ d) (σ : St) : Ct G M_X8_expectEnd d [.ref 30] σ (fun r σ' => Fm [30] [] σ σ' ∧ True) := by
  refine wa_start (by decide) rfl (Nat.le_of_ble_eq_true rfl) (lv := [(0, .ref 30)]) rfl o_X8_expectEnd_0 rfl ?_
  refine wa_aload_n (i := 0) rfl rfl ?_
  refine wa_geti ck_8 fl_8_39 ly_30 ?_
  refine wa_if_eq o_X8_expectEnd_12 (by decide) (fun h1 => ?_) (fun h1 => ?_)
  · refine wa_return (st := []) rfl rfl ?_
    exact ⟨(Fm.rf [30] [] σ), trivial⟩
  · refine wa_aload_n (i := 0) rfl rfl ?_
    refine wa_iconst (v := 2) (by decide) ?_
    refine wa_Vv (d9 := d - 1) [.int _] [] (sp_X8_fail G (d := d - 1) (by omega) σ _) (rfl) rfl rfl (zr (by omega)) mk_X8_fail ly_30 ml_8_95 (Nat.le_of_ble_eq_true rfl) (fun s2 hs2 => ?_)
    obtain ⟨fs2, -⟩ := hs2
    have Fs2 : Fm [30] [] σ s2 := Fm.tr (Fm.rf [30] [] σ) (Fm.wd fs2 rfl rfl)
    refine wa_return (st := []) rfl rfl ?_
    exact ⟨Fs2, trivial⟩
set_option maxHeartbeats 4000000 in
theorem sp_X8_readName (G : kG9) {d : Nat} (hd : 7 ≤ d) (σ : St) (a1 : Int32) : Ct G M_X8_readName d [.ref 30, .ref 1, .int a1] σ (fun r σ' => ∃ x : Int32, r = some (.int x) ∧ Fm [18, 19, 20, 21, 22, 23, 30] [] σ σ' ∧ True) := by
  refine wa_start (by decide) rfl (Nat.le_of_ble_eq_true rfl) (lv := [(0, .ref 30), (1, .ref 1), (2, .int a1)]) rfl o_X8_readName_0 rfl ?_
  have ua1 := Int32.toInt_lt a1
  have wa1 := Int32.le_toInt a1
  refine wa_aload_n (i := 0) rfl rfl ?_
  refine wa_aload_n (i := 1) rfl rfl ?_
  refine wa_iconst (v := 0) (by decide) ?_
  refine wa_iload_n (i := 2) rfl rfl ?_
  refine wa_Vv (d9 := d - 1) [.ref 1, .int _, .int _] [] (sp_X8_begin_at_1 G (d := d - 1) (by omega) σ _ _) (rfl) rfl rfl (zr (by omega)) mk_X8_begin ly_30 ml_8_23 (Nat.le_of_ble_eq_true rfl) (fun s1 hs1 => ?_)
  obtain ⟨fs1, cx2_1, -⟩ := hs1
  have Fs1 : Fm [18, 19, 20, 21, 22, 23, 30] [] σ s1 := Fm.tr (Fm.rf [18, 19, 20, 21, 22, 23, 30] [] σ) (Fm.wd fs1 rfl rfl)
  refine wa_aload_n (i := 0) rfl rfl ?_
  refine wa_getr ck_8 fl_8_15 ly_30 rf_30_1 ?_
  refine wa_aload_n (i := 0) rfl rfl ?_
  refine wa_getr ck_8 fl_8_9 ly_30 rf_30_0 ?_
  refine wa_aload_n (i := 0) rfl rfl ?_
  refine wa_geti ck_8 fl_8_79 ly_30 ?_
  refine wa_Vl (d9 := d - 1) [.int _] [.ref 7] (sp_X3_nameAt G (d := d - 1) (by omega) s1 _ (by first | assumption | exact Or.inl rfl | exact Or.inr rfl | (((try simp only [vp_in_iff, Int32.lt_iff_toInt_lt, Int32.le_iff_toInt_le, ← Int32.toInt_inj, Int32.reduceToInt, n_1, n_2, n_8, Int32.toNatClampNeg, Int64.lt_iff_toInt_lt, Int64.le_iff_toInt_le, ← Int64.toInt_inj, Int64.reduceToInt, Int32.toInt_toInt64, lg_cmp_ge, lg_cmp_le, lg_cmp_gt, lg_cmp_lt, lg_cmp_eq, Bool.false_eq_true, Bool.true_eq_false, reduceCtorEq, false_iff, true_iff, iff_true, iff_false, and_true, true_and, and_false, false_and, reduceIte, ite_true, ite_false, eq_self] at *)) <;> omega))) (rfl) rfl rfl (zr (by omega)) mk_X3_nameAt ly_18 ml_8_82 (Nat.le_of_ble_eq_true rfl) (fun x4 s3 hs3 => ?_)
  obtain ⟨zs3, -⟩ := pL hs3
  subst zs3
  refine wa_Vi (d9 := d - 1) [.long _] [] (sp_X2_claimOf G (d := d - 1) (by omega) s1 _) (rfl) rfl rfl (zr (by omega)) mk_X2_claimOf ly_7 ml_8_88 (Nat.le_of_ble_eq_true rfl) (fun x6 s5 hs5 => ?_)
  obtain ⟨zs5, -⟩ := pI hs5
  subst zs5
  refine wa_istore_nD (lv' := [(3, .int x6), (0, .ref 30), (1, .ref 1), (2, .int a1)]) (i := 3) rfl (by decide) rfl ?_
  refine wa_aload_n (i := 0) rfl rfl ?_
  refine wa_geti ck_8 fl_8_39 ly_30 ?_
  refine wa_iconst (v := 1) (by decide) ?_
  refine wa_icmp_ne o_X8_readName_56 (by decide) (fun h7 => ?_) (fun h7 => ?_)
  · refine wa_aload_n (i := 0) rfl rfl ?_
    refine wa_iconst (v := 2) (by decide) ?_
    refine wa_Vv (d9 := d - 1) [.int _] [] (sp_X8_fail G (d := d - 1) (by omega) s1 _) (rfl) rfl rfl (zr (by omega)) mk_X8_fail ly_30 ml_8_95 (Nat.le_of_ble_eq_true rfl) (fun s8 hs8 => ?_)
    obtain ⟨fs8, -⟩ := hs8
    have Fs8 : Fm [18, 19, 20, 21, 22, 23, 30] [] σ s8 := Fm.tr Fs1 (Fm.wd fs8 rfl rfl)
    refine wa_goto o_X8_readName_81 (by decide) ?_
    refine wa_aload_n (i := 0) rfl rfl ?_
    refine wa_Vv (d9 := d - 1) [] [] (sp_X8_expectEnd G (d := d - 1) (by omega) s8 ) (rfl) rfl rfl (zr (by omega)) mk_X8_expectEnd ly_30 ml_8_59 (Nat.le_of_ble_eq_true rfl) (fun s10 hs10 => ?_)
    obtain ⟨fs10, -⟩ := hs10
    have Fs10 : Fm [18, 19, 20, 21, 22, 23, 30] [] σ s10 := Fm.tr Fs8 (Fm.wd fs10 rfl rfl)
    refine wa_aload_n (i := 0) rfl rfl ?_
    refine wa_geti ck_8 fl_8_62 ly_30 ?_
    refine wa_if_ne o_X8_readName_96 (by decide) (fun h12 => ?_) (fun h12 => ?_)
    · refine wa_iconst (v := (-1)) (by decide) ?_
      refine wa_ireturn rfl rfl ?_
      exact ⟨_, rfl, Fs10, trivial⟩
    · refine wa_iload_n (i := 3) rfl rfl ?_
      refine wa_goto o_X8_readName_97 (by decide) ?_
      refine wa_ireturn rfl rfl ?_
      exact ⟨_, rfl, Fs10, trivial⟩
  · refine wa_aload_n (i := 0) rfl rfl ?_
    refine wa_getr ck_8 fl_8_15 ly_30 rf_30_1 ?_
    refine wa_aload_n (i := 0) rfl rfl ?_
    refine wa_getr ck_8 fl_8_9 ly_30 rf_30_0 ?_
    refine wa_aload_n (i := 0) rfl rfl ?_
    refine wa_geti ck_8 fl_8_79 ly_30 ?_
    refine wa_Vl (d9 := d - 1) [.int _] [.ref 7] (sp_X3_nameAt G (d := d - 1) (by omega) s1 _ (by first | assumption | exact Or.inl rfl | exact Or.inr rfl | (((try simp only [vp_in_iff, Int32.lt_iff_toInt_lt, Int32.le_iff_toInt_le, ← Int32.toInt_inj, Int32.reduceToInt, n_1, n_2, n_8, Int32.toNatClampNeg, Int64.lt_iff_toInt_lt, Int64.le_iff_toInt_le, ← Int64.toInt_inj, Int64.reduceToInt, Int32.toInt_toInt64, lg_cmp_ge, lg_cmp_le, lg_cmp_gt, lg_cmp_lt, lg_cmp_eq, Bool.false_eq_true, Bool.true_eq_false, reduceCtorEq, false_iff, true_iff, iff_true, iff_false, and_true, true_and, and_false, false_and, reduceIte, ite_true, ite_false, eq_self] at *)) <;> omega))) (rfl) rfl rfl (zr (by omega)) mk_X3_nameAt ly_18 ml_8_82 (Nat.le_of_ble_eq_true rfl) (fun x14 s13 hs13 => ?_)
    obtain ⟨zs13, -⟩ := pL hs13
    subst zs13
    refine wa_Vi (d9 := d - 1) [.long _] [] (sp_X2_variableOf G (d := d - 1) (by omega) s1 _) (rfl) rfl rfl (zr (by omega)) mk_X2_variableOf ly_7 ml_8_92 (Nat.le_of_ble_eq_true rfl) (fun x16 s15 hs15 => ?_)
    obtain ⟨zs15, -⟩ := pI hs15
    subst zs15
    refine wa_iconst (v := (-1)) (by decide) ?_
    refine wa_icmp_eq o_X8_readName_64 (by decide) (fun h17 => ?_) (fun h17 => ?_)
    · refine wa_iload_n (i := 3) rfl rfl ?_
      refine wa_iconst (v := (-1)) (by decide) ?_
      refine wa_icmp_ne o_X8_readName_77 (by decide) (fun h18 => ?_) (fun h18 => ?_)
      · refine wa_aload_n (i := 0) rfl rfl ?_
        refine wa_Vv (d9 := d - 1) [] [] (sp_X8_next G (d := d - 1) (by omega) s1 ) (rfl) rfl rfl (zr (by omega)) mk_X8_next ly_30 ml_8_98 (Nat.le_of_ble_eq_true rfl) (fun s19 hs19 => ?_)
        obtain ⟨fs19, -⟩ := hs19
        have Fs19 : Fm [18, 19, 20, 21, 22, 23, 30] [] σ s19 := Fm.tr Fs1 (Fm.wd fs19 rfl rfl)
        refine wa_aload_n (i := 0) rfl rfl ?_
        refine wa_Vv (d9 := d - 1) [] [] (sp_X8_expectEnd G (d := d - 1) (by omega) s19 ) (rfl) rfl rfl (zr (by omega)) mk_X8_expectEnd ly_30 ml_8_59 (Nat.le_of_ble_eq_true rfl) (fun s21 hs21 => ?_)
        obtain ⟨fs21, -⟩ := hs21
        have Fs21 : Fm [18, 19, 20, 21, 22, 23, 30] [] σ s21 := Fm.tr Fs19 (Fm.wd fs21 rfl rfl)
        refine wa_aload_n (i := 0) rfl rfl ?_
        refine wa_geti ck_8 fl_8_62 ly_30 ?_
        refine wa_if_ne o_X8_readName_96 (by decide) (fun h23 => ?_) (fun h23 => ?_)
        · refine wa_iconst (v := (-1)) (by decide) ?_
          refine wa_ireturn rfl rfl ?_
          exact ⟨_, rfl, Fs21, trivial⟩
        · refine wa_iload_n (i := 3) rfl rfl ?_
          refine wa_goto o_X8_readName_97 (by decide) ?_
          refine wa_ireturn rfl rfl ?_
          exact ⟨_, rfl, Fs21, trivial⟩
      · refine wa_aload_n (i := 0) rfl rfl ?_
        refine wa_iconst (v := 3) (by decide) ?_
        refine wa_Vv (d9 := d - 1) [.int _] [] (sp_X8_fail G (d := d - 1) (by omega) s1 _) (rfl) rfl rfl (zr (by omega)) mk_X8_fail ly_30 ml_8_95 (Nat.le_of_ble_eq_true rfl) (fun s24 hs24 => ?_)
        obtain ⟨fs24, -⟩ := hs24
        have Fs24 : Fm [18, 19, 20, 21, 22, 23, 30] [] σ s24 := Fm.tr Fs1 (Fm.wd fs24 rfl rfl)
        refine wa_goto o_X8_readName_81 (by decide) ?_
        refine wa_aload_n (i := 0) rfl rfl ?_
        refine wa_Vv (d9 := d - 1) [] [] (sp_X8_expectEnd G (d := d - 1) (by omega) s24 ) (rfl) rfl rfl (zr (by omega)) mk_X8_expectEnd ly_30 ml_8_59 (Nat.le_of_ble_eq_true rfl) (fun s26 hs26 => ?_)
        obtain ⟨fs26, -⟩ := hs26
        have Fs26 : Fm [18, 19, 20, 21, 22, 23, 30] [] σ s26 := Fm.tr Fs24 (Fm.wd fs26 rfl rfl)
        refine wa_aload_n (i := 0) rfl rfl ?_
        refine wa_geti ck_8 fl_8_62 ly_30 ?_
        refine wa_if_ne o_X8_readName_96 (by decide) (fun h28 => ?_) (fun h28 => ?_)
        · refine wa_iconst (v := (-1)) (by decide) ?_
          refine wa_ireturn rfl rfl ?_
          exact ⟨_, rfl, Fs26, trivial⟩
        · refine wa_iload_n (i := 3) rfl rfl ?_
          refine wa_goto o_X8_readName_97 (by decide) ?_
          refine wa_ireturn rfl rfl ?_
          exact ⟨_, rfl, Fs26, trivial⟩
    · refine wa_aload_n (i := 0) rfl rfl ?_
      refine wa_iconst (v := 2) (by decide) ?_
      refine wa_Vv (d9 := d - 1) [.int _] [] (sp_X8_fail G (d := d - 1) (by omega) s1 _) (rfl) rfl rfl (zr (by omega)) mk_X8_fail ly_30 ml_8_95 (Nat.le_of_ble_eq_true rfl) (fun s29 hs29 => ?_)
      obtain ⟨fs29, -⟩ := hs29
      have Fs29 : Fm [18, 19, 20, 21, 22, 23, 30] [] σ s29 := Fm.tr Fs1 (Fm.wd fs29 rfl rfl)
      refine wa_goto o_X8_readName_81 (by decide) ?_
      refine wa_aload_n (i := 0) rfl rfl ?_
      refine wa_Vv (d9 := d - 1) [] [] (sp_X8_expectEnd G (d := d - 1) (by omega) s29 ) (rfl) rfl rfl (zr (by omega)) mk_X8_expectEnd ly_30 ml_8_59 (Nat.le_of_ble_eq_true rfl) (fun s31 hs31 => ?_)
      obtain ⟨fs31, -⟩ := hs31
      have Fs31 : Fm [18, 19, 20, 21, 22, 23, 30] [] σ s31 := Fm.tr Fs29 (Fm.wd fs31 rfl rfl)
      refine wa_aload_n (i := 0) rfl rfl ?_
      refine wa_geti ck_8 fl_8_62 ly_30 ?_
      refine wa_if_ne o_X8_readName_96 (by decide) (fun h33 => ?_) (fun h33 => ?_)
      · refine wa_iconst (v := (-1)) (by decide) ?_
        refine wa_ireturn rfl rfl ?_
        exact ⟨_, rfl, Fs31, trivial⟩
      · refine wa_iload_n (i := 3) rfl rfl ?_
        refine wa_goto o_X8_readName_97 (by decide) ?_
        refine wa_ireturn rfl rfl ?_
        exact ⟨_, rfl, Fs31, trivial⟩
set_option maxHeartbeats 4000000 in
theorem sp_X8_accept (G : kG9) {d : Nat} (hd : 1 ≤ d) (σ : St) (a0 : Int32) (a1 : Int32) : Ct G M_X8_accept d [.ref 30, .int a0, .int a1] σ (fun r σ' => Fm [10, 30] [] σ σ' ∧ True) := by
  refine wa_start (by decide) rfl (Nat.le_of_ble_eq_true rfl) (lv := [(0, .ref 30), (1, .int a0), (2, .int a1)]) rfl o_X8_accept_0 rfl ?_
  have ua0 := Int32.toInt_lt a0
  have wa0 := Int32.le_toInt a0
  have ua1 := Int32.toInt_lt a1
  have wa1 := Int32.le_toInt a1
  refine wa_iload_n (i := 1) rfl rfl ?_
  refine wa_bipush (v := 25) (by decide) ?_
  refine wa_icmp_eq o_X8_accept_17 (by decide) (fun h1 => ?_) (fun h1 => ?_)
  · refine wa_iconst (v := 1) (by decide) ?_
    refine wa_goto o_X8_accept_22 (by decide) ?_
    refine wa_istore_nD (lv' := [(3, .int (bI true)), (0, .ref 30), (1, .int a0), (2, .int a1)]) (i := 3) rfl (by decide) rfl ?_
    refine wa_aload_n (i := 0) rfl rfl ?_
    refine wa_geti ck_8 fl_8_39 ly_30 ?_
    refine wa_iload_n (i := 1) rfl rfl ?_
    refine wa_icmp_eq o_X8_accept_39 (by decide) (fun h2 => ?_) (fun h2 => ?_)
    · refine wa_aload_n (i := 0) rfl rfl ?_
      refine wa_geti ck_8 fl_8_167 ly_30 ?_
      refine wa_bipush (v := 120) (by decide) ?_
      refine wa_icmp_ge o_X8_accept_61 (by decide) (fun h3 => ?_) (fun h3 => ?_)
      · refine wa_aload_n (i := 0) rfl rfl ?_
        refine wa_iconst (v := 5) (by decide) ?_
        refine wa_Vv (d9 := d - 1) [.int _] [] (sp_X8_fail G (d := d - 1) (by omega) σ _) (rfl) rfl rfl (zr (by omega)) mk_X8_fail ly_30 ml_8_95 (Nat.le_of_ble_eq_true rfl) (fun s4 hs4 => ?_)
        obtain ⟨fs4, -⟩ := hs4
        have Fs4 : Fm [10, 30] [] σ s4 := Fm.tr (Fm.rf [10, 30] [] σ) (Fm.wd fs4 rfl rfl)
        refine wa_goto o_X8_accept_132 (by decide) ?_
        refine wa_return (st := []) rfl rfl ?_
        exact ⟨Fs4, trivial⟩
      · have mh3 := nle_mx h3
        refine wa_iload_n (i := 3) rfl rfl ?_
        refine wa_if_eq o_X8_accept_69 (by decide) (fun h6 => ?_) (fun h6 => ?_)
        · replace h6 := bI_f (b := true) (rfl) h6
          refine wa_aload_n (i := 0) rfl rfl ?_
          refine wa_dup rfl ?_
          refine wa_geti ck_8 fl_8_173 ly_30 ?_
          refine wa_iload_n (i := 3) rfl rfl ?_
          refine wa_if_eq o_X8_accept_82 (by decide) (fun h7 => ?_) (fun h7 => ?_)
          · replace h7 := bI_f (b := true) (rfl) h7
            refine wa_iload_n (i := 1) rfl rfl ?_
            refine wa_iconst (v := 5) (by decide) ?_
            refine wa_icmp_eq o_X8_accept_93 (by decide) (fun h8 => ?_) (fun h8 => ?_)
            · refine wa_iconst (v := (-1)) (by decide) ?_
              refine wa_goto o_X8_accept_98 (by decide) ?_
              refine wa_iadd ?_
              refine wa_top (fun v9 hv9 => ?_)
              have tv9 := i_addT hv9
              clear hv9
              refine wa_puti ck_8 fl_8_173 ly_30 (fun s10 hs10 => ?_)
              have Fs10 : Fm [10, 30] [] σ s10 := by rw [hs10]; exact Fm.si (Fm.rf [10, 30] [] σ) rfl
              refine wa_aload_n (i := 0) rfl rfl ?_
              refine wa_getr ck_8 fl_8_15 ly_30 rf_30_1 ?_
              refine wa_aload_n (i := 0) rfl rfl ?_
              refine wa_geti ck_8 fl_8_164 ly_30 ?_
              refine wa_rw (nxk_gi_si hs10 (by decide)) ?_
              refine wa_aload_n (i := 0) rfl rfl ?_
              refine wa_geti ck_8 fl_8_167 ly_30 ?_
              refine wa_rw (nxk_gi_si hs10 (by decide)) ?_
              refine wa_iload_n (i := 2) rfl rfl ?_
              refine wa_Vv (d9 := d - 1) [.int _, .int _, .int _] [] (sp_X2_setToken G (d := d - 1) (by omega) s10 _ _ _) (rfl) rfl rfl (zr (by omega)) mk_X2_setToken ly_7 ml_8_185 (Nat.le_of_ble_eq_true rfl) (fun s11 hs11 => ?_)
              obtain ⟨fs11, -⟩ := hs11
              have Fs11 : Fm [10, 30] [] σ s11 := Fm.tr Fs10 (Fm.ofSm fs11 rfl)
              refine wa_aload_n (i := 0) rfl rfl ?_
              refine wa_dup rfl ?_
              refine wa_geti ck_8 fl_8_167 ly_30 ?_
              refine wa_rw ((Sm.gi fs11 12 (Or.inr (by decide))).trans (nxk_gi_si hs10 (by decide))) ?_
              refine wa_iconst (v := 1) (by decide) ?_
              refine wa_iadd ?_
              refine wa_top (fun v13 hv13 => ?_)
              have tv13 := i_addT hv13
              clear hv13
              refine wa_puti ck_8 fl_8_167 ly_30 (fun s14 hs14 => ?_)
              have Fs14 : Fm [10, 30] [] σ s14 := by rw [hs14]; exact Fm.si Fs11 rfl
              refine wa_aload_n (i := 0) rfl rfl ?_
              refine wa_Vv (d9 := d - 1) [] [] (sp_X8_next G (d := d - 1) (by omega) s14 ) (rfl) rfl rfl (zr (by omega)) mk_X8_next ly_30 ml_8_98 (Nat.le_of_ble_eq_true rfl) (fun s15 hs15 => ?_)
              obtain ⟨fs15, -⟩ := hs15
              have Fs15 : Fm [10, 30] [] σ s15 := Fm.tr Fs14 (Fm.wd fs15 rfl rfl)
              refine wa_return (st := []) rfl rfl ?_
              exact ⟨Fs15, trivial⟩
            · refine wa_iload_n (i := 1) rfl rfl ?_
              refine wa_bipush (v := 7) (by decide) ?_
              refine wa_icmp_ne o_X8_accept_97 (by decide) (fun h17 => ?_) (fun h17 => ?_)
              · refine wa_iconst (v := 0) (by decide) ?_
                refine wa_iadd ?_
                refine wa_top (fun v18 hv18 => ?_)
                have tv18 := i_addT hv18
                clear hv18
                refine wa_puti ck_8 fl_8_173 ly_30 (fun s19 hs19 => ?_)
                have Fs19 : Fm [10, 30] [] σ s19 := by rw [hs19]; exact Fm.si (Fm.rf [10, 30] [] σ) rfl
                refine wa_aload_n (i := 0) rfl rfl ?_
                refine wa_getr ck_8 fl_8_15 ly_30 rf_30_1 ?_
                refine wa_aload_n (i := 0) rfl rfl ?_
                refine wa_geti ck_8 fl_8_164 ly_30 ?_
                refine wa_rw (nxk_gi_si hs19 (by decide)) ?_
                refine wa_aload_n (i := 0) rfl rfl ?_
                refine wa_geti ck_8 fl_8_167 ly_30 ?_
                refine wa_rw (nxk_gi_si hs19 (by decide)) ?_
                refine wa_iload_n (i := 2) rfl rfl ?_
                refine wa_Vv (d9 := d - 1) [.int _, .int _, .int _] [] (sp_X2_setToken G (d := d - 1) (by omega) s19 _ _ _) (rfl) rfl rfl (zr (by omega)) mk_X2_setToken ly_7 ml_8_185 (Nat.le_of_ble_eq_true rfl) (fun s20 hs20 => ?_)
                obtain ⟨fs20, -⟩ := hs20
                have Fs20 : Fm [10, 30] [] σ s20 := Fm.tr Fs19 (Fm.ofSm fs20 rfl)
                refine wa_aload_n (i := 0) rfl rfl ?_
                refine wa_dup rfl ?_
                refine wa_geti ck_8 fl_8_167 ly_30 ?_
                refine wa_rw ((Sm.gi fs20 12 (Or.inr (by decide))).trans (nxk_gi_si hs19 (by decide))) ?_
                refine wa_iconst (v := 1) (by decide) ?_
                refine wa_iadd ?_
                refine wa_top (fun v22 hv22 => ?_)
                have tv22 := i_addT hv22
                clear hv22
                refine wa_puti ck_8 fl_8_167 ly_30 (fun s23 hs23 => ?_)
                have Fs23 : Fm [10, 30] [] σ s23 := by rw [hs23]; exact Fm.si Fs20 rfl
                refine wa_aload_n (i := 0) rfl rfl ?_
                refine wa_Vv (d9 := d - 1) [] [] (sp_X8_next G (d := d - 1) (by omega) s23 ) (rfl) rfl rfl (zr (by omega)) mk_X8_next ly_30 ml_8_98 (Nat.le_of_ble_eq_true rfl) (fun s24 hs24 => ?_)
                obtain ⟨fs24, -⟩ := hs24
                have Fs24 : Fm [10, 30] [] σ s24 := Fm.tr Fs23 (Fm.wd fs24 rfl rfl)
                refine wa_return (st := []) rfl rfl ?_
                exact ⟨Fs24, trivial⟩
              · refine wa_iconst (v := (-1)) (by decide) ?_
                refine wa_goto o_X8_accept_98 (by decide) ?_
                refine wa_iadd ?_
                refine wa_top (fun v26 hv26 => ?_)
                have tv26 := i_addT hv26
                clear hv26
                refine wa_puti ck_8 fl_8_173 ly_30 (fun s27 hs27 => ?_)
                have Fs27 : Fm [10, 30] [] σ s27 := by rw [hs27]; exact Fm.si (Fm.rf [10, 30] [] σ) rfl
                refine wa_aload_n (i := 0) rfl rfl ?_
                refine wa_getr ck_8 fl_8_15 ly_30 rf_30_1 ?_
                refine wa_aload_n (i := 0) rfl rfl ?_
                refine wa_geti ck_8 fl_8_164 ly_30 ?_
                refine wa_rw (nxk_gi_si hs27 (by decide)) ?_
                refine wa_aload_n (i := 0) rfl rfl ?_
                refine wa_geti ck_8 fl_8_167 ly_30 ?_
                refine wa_rw (nxk_gi_si hs27 (by decide)) ?_
                refine wa_iload_n (i := 2) rfl rfl ?_
                refine wa_Vv (d9 := d - 1) [.int _, .int _, .int _] [] (sp_X2_setToken G (d := d - 1) (by omega) s27 _ _ _) (rfl) rfl rfl (zr (by omega)) mk_X2_setToken ly_7 ml_8_185 (Nat.le_of_ble_eq_true rfl) (fun s28 hs28 => ?_)
                obtain ⟨fs28, -⟩ := hs28
                have Fs28 : Fm [10, 30] [] σ s28 := Fm.tr Fs27 (Fm.ofSm fs28 rfl)
                refine wa_aload_n (i := 0) rfl rfl ?_
                refine wa_dup rfl ?_
                refine wa_geti ck_8 fl_8_167 ly_30 ?_
                refine wa_rw ((Sm.gi fs28 12 (Or.inr (by decide))).trans (nxk_gi_si hs27 (by decide))) ?_
                refine wa_iconst (v := 1) (by decide) ?_
                refine wa_iadd ?_
                refine wa_top (fun v30 hv30 => ?_)
                have tv30 := i_addT hv30
                clear hv30
                refine wa_puti ck_8 fl_8_167 ly_30 (fun s31 hs31 => ?_)
                have Fs31 : Fm [10, 30] [] σ s31 := by rw [hs31]; exact Fm.si Fs28 rfl
                refine wa_aload_n (i := 0) rfl rfl ?_
                refine wa_Vv (d9 := d - 1) [] [] (sp_X8_next G (d := d - 1) (by omega) s31 ) (rfl) rfl rfl (zr (by omega)) mk_X8_next ly_30 ml_8_98 (Nat.le_of_ble_eq_true rfl) (fun s32 hs32 => ?_)
                obtain ⟨fs32, -⟩ := hs32
                have Fs32 : Fm [10, 30] [] σ s32 := Fm.tr Fs31 (Fm.wd fs32 rfl rfl)
                refine wa_return (st := []) rfl rfl ?_
                exact ⟨Fs32, trivial⟩
          · replace h7 := bI_t (b := true) (rfl) h7
            refine wa_iconst (v := 1) (by decide) ?_
            refine wa_goto o_X8_accept_98 (by decide) ?_
            refine wa_iadd ?_
            refine wa_top (fun v34 hv34 => ?_)
            have tv34 := i_addT hv34
            clear hv34
            refine wa_puti ck_8 fl_8_173 ly_30 (fun s35 hs35 => ?_)
            have Fs35 : Fm [10, 30] [] σ s35 := by rw [hs35]; exact Fm.si (Fm.rf [10, 30] [] σ) rfl
            refine wa_aload_n (i := 0) rfl rfl ?_
            refine wa_getr ck_8 fl_8_15 ly_30 rf_30_1 ?_
            refine wa_aload_n (i := 0) rfl rfl ?_
            refine wa_geti ck_8 fl_8_164 ly_30 ?_
            refine wa_rw (nxk_gi_si hs35 (by decide)) ?_
            refine wa_aload_n (i := 0) rfl rfl ?_
            refine wa_geti ck_8 fl_8_167 ly_30 ?_
            refine wa_rw (nxk_gi_si hs35 (by decide)) ?_
            refine wa_iload_n (i := 2) rfl rfl ?_
            refine wa_Vv (d9 := d - 1) [.int _, .int _, .int _] [] (sp_X2_setToken G (d := d - 1) (by omega) s35 _ _ _) (rfl) rfl rfl (zr (by omega)) mk_X2_setToken ly_7 ml_8_185 (Nat.le_of_ble_eq_true rfl) (fun s36 hs36 => ?_)
            obtain ⟨fs36, -⟩ := hs36
            have Fs36 : Fm [10, 30] [] σ s36 := Fm.tr Fs35 (Fm.ofSm fs36 rfl)
            refine wa_aload_n (i := 0) rfl rfl ?_
            refine wa_dup rfl ?_
            refine wa_geti ck_8 fl_8_167 ly_30 ?_
            refine wa_rw ((Sm.gi fs36 12 (Or.inr (by decide))).trans (nxk_gi_si hs35 (by decide))) ?_
            refine wa_iconst (v := 1) (by decide) ?_
            refine wa_iadd ?_
            refine wa_top (fun v38 hv38 => ?_)
            have tv38 := i_addT hv38
            clear hv38
            refine wa_puti ck_8 fl_8_167 ly_30 (fun s39 hs39 => ?_)
            have Fs39 : Fm [10, 30] [] σ s39 := by rw [hs39]; exact Fm.si Fs36 rfl
            refine wa_aload_n (i := 0) rfl rfl ?_
            refine wa_Vv (d9 := d - 1) [] [] (sp_X8_next G (d := d - 1) (by omega) s39 ) (rfl) rfl rfl (zr (by omega)) mk_X8_next ly_30 ml_8_98 (Nat.le_of_ble_eq_true rfl) (fun s40 hs40 => ?_)
            obtain ⟨fs40, -⟩ := hs40
            have Fs40 : Fm [10, 30] [] σ s40 := Fm.tr Fs39 (Fm.wd fs40 rfl rfl)
            refine wa_return (st := []) rfl rfl ?_
            exact ⟨Fs40, trivial⟩
        · replace h6 := bI_t (b := true) (rfl) h6
          refine wa_aload_n (i := 0) rfl rfl ?_
          refine wa_geti ck_8 fl_8_173 ly_30 ?_
          refine wa_bipush (v := 12) (by decide) ?_
          refine wa_icmp_lt o_X8_accept_69 (by decide) (fun h42 => ?_) (fun h42 => ?_)
          · refine wa_aload_n (i := 0) rfl rfl ?_
            refine wa_dup rfl ?_
            refine wa_geti ck_8 fl_8_173 ly_30 ?_
            refine wa_iload_n (i := 3) rfl rfl ?_
            refine wa_if_eq o_X8_accept_82 (by decide) (fun h43 => ?_) (fun h43 => ?_)
            · replace h43 := bI_f (b := true) (rfl) h43
              refine wa_iload_n (i := 1) rfl rfl ?_
              refine wa_iconst (v := 5) (by decide) ?_
              refine wa_icmp_eq o_X8_accept_93 (by decide) (fun h44 => ?_) (fun h44 => ?_)
              · refine wa_iconst (v := (-1)) (by decide) ?_
                refine wa_goto o_X8_accept_98 (by decide) ?_
                refine wa_iadd ?_
                refine wa_top (fun v45 hv45 => ?_)
                have tv45 := i_addT hv45
                clear hv45
                refine wa_puti ck_8 fl_8_173 ly_30 (fun s46 hs46 => ?_)
                have Fs46 : Fm [10, 30] [] σ s46 := by rw [hs46]; exact Fm.si (Fm.rf [10, 30] [] σ) rfl
                refine wa_aload_n (i := 0) rfl rfl ?_
                refine wa_getr ck_8 fl_8_15 ly_30 rf_30_1 ?_
                refine wa_aload_n (i := 0) rfl rfl ?_
                refine wa_geti ck_8 fl_8_164 ly_30 ?_
                refine wa_rw (nxk_gi_si hs46 (by decide)) ?_
                refine wa_aload_n (i := 0) rfl rfl ?_
                refine wa_geti ck_8 fl_8_167 ly_30 ?_
                refine wa_rw (nxk_gi_si hs46 (by decide)) ?_
                refine wa_iload_n (i := 2) rfl rfl ?_
                refine wa_Vv (d9 := d - 1) [.int _, .int _, .int _] [] (sp_X2_setToken G (d := d - 1) (by omega) s46 _ _ _) (rfl) rfl rfl (zr (by omega)) mk_X2_setToken ly_7 ml_8_185 (Nat.le_of_ble_eq_true rfl) (fun s47 hs47 => ?_)
                obtain ⟨fs47, -⟩ := hs47
                have Fs47 : Fm [10, 30] [] σ s47 := Fm.tr Fs46 (Fm.ofSm fs47 rfl)
                refine wa_aload_n (i := 0) rfl rfl ?_
                refine wa_dup rfl ?_
                refine wa_geti ck_8 fl_8_167 ly_30 ?_
                refine wa_rw ((Sm.gi fs47 12 (Or.inr (by decide))).trans (nxk_gi_si hs46 (by decide))) ?_
                refine wa_iconst (v := 1) (by decide) ?_
                refine wa_iadd ?_
                refine wa_top (fun v49 hv49 => ?_)
                have tv49 := i_addT hv49
                clear hv49
                refine wa_puti ck_8 fl_8_167 ly_30 (fun s50 hs50 => ?_)
                have Fs50 : Fm [10, 30] [] σ s50 := by rw [hs50]; exact Fm.si Fs47 rfl
                refine wa_aload_n (i := 0) rfl rfl ?_
                refine wa_Vv (d9 := d - 1) [] [] (sp_X8_next G (d := d - 1) (by omega) s50 ) (rfl) rfl rfl (zr (by omega)) mk_X8_next ly_30 ml_8_98 (Nat.le_of_ble_eq_true rfl) (fun s51 hs51 => ?_)
                obtain ⟨fs51, -⟩ := hs51
                have Fs51 : Fm [10, 30] [] σ s51 := Fm.tr Fs50 (Fm.wd fs51 rfl rfl)
                refine wa_return (st := []) rfl rfl ?_
                exact ⟨Fs51, trivial⟩
              · refine wa_iload_n (i := 1) rfl rfl ?_
                refine wa_bipush (v := 7) (by decide) ?_
                refine wa_icmp_ne o_X8_accept_97 (by decide) (fun h53 => ?_) (fun h53 => ?_)
                · refine wa_iconst (v := 0) (by decide) ?_
                  refine wa_iadd ?_
                  refine wa_top (fun v54 hv54 => ?_)
                  have tv54 := i_addT hv54
                  clear hv54
                  refine wa_puti ck_8 fl_8_173 ly_30 (fun s55 hs55 => ?_)
                  have Fs55 : Fm [10, 30] [] σ s55 := by rw [hs55]; exact Fm.si (Fm.rf [10, 30] [] σ) rfl
                  refine wa_aload_n (i := 0) rfl rfl ?_
                  refine wa_getr ck_8 fl_8_15 ly_30 rf_30_1 ?_
                  refine wa_aload_n (i := 0) rfl rfl ?_
                  refine wa_geti ck_8 fl_8_164 ly_30 ?_
                  refine wa_rw (nxk_gi_si hs55 (by decide)) ?_
                  refine wa_aload_n (i := 0) rfl rfl ?_
                  refine wa_geti ck_8 fl_8_167 ly_30 ?_
                  refine wa_rw (nxk_gi_si hs55 (by decide)) ?_
                  refine wa_iload_n (i := 2) rfl rfl ?_
                  refine wa_Vv (d9 := d - 1) [.int _, .int _, .int _] [] (sp_X2_setToken G (d := d - 1) (by omega) s55 _ _ _) (rfl) rfl rfl (zr (by omega)) mk_X2_setToken ly_7 ml_8_185 (Nat.le_of_ble_eq_true rfl) (fun s56 hs56 => ?_)
                  obtain ⟨fs56, -⟩ := hs56
                  have Fs56 : Fm [10, 30] [] σ s56 := Fm.tr Fs55 (Fm.ofSm fs56 rfl)
                  refine wa_aload_n (i := 0) rfl rfl ?_
                  refine wa_dup rfl ?_
                  refine wa_geti ck_8 fl_8_167 ly_30 ?_
                  refine wa_rw ((Sm.gi fs56 12 (Or.inr (by decide))).trans (nxk_gi_si hs55 (by decide))) ?_
                  refine wa_iconst (v := 1) (by decide) ?_
                  refine wa_iadd ?_
                  refine wa_top (fun v58 hv58 => ?_)
                  have tv58 := i_addT hv58
                  clear hv58
                  refine wa_puti ck_8 fl_8_167 ly_30 (fun s59 hs59 => ?_)
                  have Fs59 : Fm [10, 30] [] σ s59 := by rw [hs59]; exact Fm.si Fs56 rfl
                  refine wa_aload_n (i := 0) rfl rfl ?_
                  refine wa_Vv (d9 := d - 1) [] [] (sp_X8_next G (d := d - 1) (by omega) s59 ) (rfl) rfl rfl (zr (by omega)) mk_X8_next ly_30 ml_8_98 (Nat.le_of_ble_eq_true rfl) (fun s60 hs60 => ?_)
                  obtain ⟨fs60, -⟩ := hs60
                  have Fs60 : Fm [10, 30] [] σ s60 := Fm.tr Fs59 (Fm.wd fs60 rfl rfl)
                  refine wa_return (st := []) rfl rfl ?_
                  exact ⟨Fs60, trivial⟩
                · refine wa_iconst (v := (-1)) (by decide) ?_
                  refine wa_goto o_X8_accept_98 (by decide) ?_
                  refine wa_iadd ?_
                  refine wa_top (fun v62 hv62 => ?_)
                  have tv62 := i_addT hv62
                  clear hv62
                  refine wa_puti ck_8 fl_8_173 ly_30 (fun s63 hs63 => ?_)
                  have Fs63 : Fm [10, 30] [] σ s63 := by rw [hs63]; exact Fm.si (Fm.rf [10, 30] [] σ) rfl
                  refine wa_aload_n (i := 0) rfl rfl ?_
                  refine wa_getr ck_8 fl_8_15 ly_30 rf_30_1 ?_
                  refine wa_aload_n (i := 0) rfl rfl ?_
                  refine wa_geti ck_8 fl_8_164 ly_30 ?_
                  refine wa_rw (nxk_gi_si hs63 (by decide)) ?_
                  refine wa_aload_n (i := 0) rfl rfl ?_
                  refine wa_geti ck_8 fl_8_167 ly_30 ?_
                  refine wa_rw (nxk_gi_si hs63 (by decide)) ?_
                  refine wa_iload_n (i := 2) rfl rfl ?_
                  refine wa_Vv (d9 := d - 1) [.int _, .int _, .int _] [] (sp_X2_setToken G (d := d - 1) (by omega) s63 _ _ _) (rfl) rfl rfl (zr (by omega)) mk_X2_setToken ly_7 ml_8_185 (Nat.le_of_ble_eq_true rfl) (fun s64 hs64 => ?_)
                  obtain ⟨fs64, -⟩ := hs64
                  have Fs64 : Fm [10, 30] [] σ s64 := Fm.tr Fs63 (Fm.ofSm fs64 rfl)
                  refine wa_aload_n (i := 0) rfl rfl ?_
                  refine wa_dup rfl ?_
                  refine wa_geti ck_8 fl_8_167 ly_30 ?_
                  refine wa_rw ((Sm.gi fs64 12 (Or.inr (by decide))).trans (nxk_gi_si hs63 (by decide))) ?_
                  refine wa_iconst (v := 1) (by decide) ?_
                  refine wa_iadd ?_
                  refine wa_top (fun v66 hv66 => ?_)
                  have tv66 := i_addT hv66
                  clear hv66
                  refine wa_puti ck_8 fl_8_167 ly_30 (fun s67 hs67 => ?_)
                  have Fs67 : Fm [10, 30] [] σ s67 := by rw [hs67]; exact Fm.si Fs64 rfl
                  refine wa_aload_n (i := 0) rfl rfl ?_
                  refine wa_Vv (d9 := d - 1) [] [] (sp_X8_next G (d := d - 1) (by omega) s67 ) (rfl) rfl rfl (zr (by omega)) mk_X8_next ly_30 ml_8_98 (Nat.le_of_ble_eq_true rfl) (fun s68 hs68 => ?_)
                  obtain ⟨fs68, -⟩ := hs68
                  have Fs68 : Fm [10, 30] [] σ s68 := Fm.tr Fs67 (Fm.wd fs68 rfl rfl)
                  refine wa_return (st := []) rfl rfl ?_
                  exact ⟨Fs68, trivial⟩
            · replace h43 := bI_t (b := true) (rfl) h43
              refine wa_iconst (v := 1) (by decide) ?_
              refine wa_goto o_X8_accept_98 (by decide) ?_
              refine wa_iadd ?_
              refine wa_top (fun v70 hv70 => ?_)
              have tv70 := i_addT hv70
              clear hv70
              refine wa_puti ck_8 fl_8_173 ly_30 (fun s71 hs71 => ?_)
              have Fs71 : Fm [10, 30] [] σ s71 := by rw [hs71]; exact Fm.si (Fm.rf [10, 30] [] σ) rfl
              refine wa_aload_n (i := 0) rfl rfl ?_
              refine wa_getr ck_8 fl_8_15 ly_30 rf_30_1 ?_
              refine wa_aload_n (i := 0) rfl rfl ?_
              refine wa_geti ck_8 fl_8_164 ly_30 ?_
              refine wa_rw (nxk_gi_si hs71 (by decide)) ?_
              refine wa_aload_n (i := 0) rfl rfl ?_
              refine wa_geti ck_8 fl_8_167 ly_30 ?_
              refine wa_rw (nxk_gi_si hs71 (by decide)) ?_
              refine wa_iload_n (i := 2) rfl rfl ?_
              refine wa_Vv (d9 := d - 1) [.int _, .int _, .int _] [] (sp_X2_setToken G (d := d - 1) (by omega) s71 _ _ _) (rfl) rfl rfl (zr (by omega)) mk_X2_setToken ly_7 ml_8_185 (Nat.le_of_ble_eq_true rfl) (fun s72 hs72 => ?_)
              obtain ⟨fs72, -⟩ := hs72
              have Fs72 : Fm [10, 30] [] σ s72 := Fm.tr Fs71 (Fm.ofSm fs72 rfl)
              refine wa_aload_n (i := 0) rfl rfl ?_
              refine wa_dup rfl ?_
              refine wa_geti ck_8 fl_8_167 ly_30 ?_
              refine wa_rw ((Sm.gi fs72 12 (Or.inr (by decide))).trans (nxk_gi_si hs71 (by decide))) ?_
              refine wa_iconst (v := 1) (by decide) ?_
              refine wa_iadd ?_
              refine wa_top (fun v74 hv74 => ?_)
              have tv74 := i_addT hv74
              clear hv74
              refine wa_puti ck_8 fl_8_167 ly_30 (fun s75 hs75 => ?_)
              have Fs75 : Fm [10, 30] [] σ s75 := by rw [hs75]; exact Fm.si Fs72 rfl
              refine wa_aload_n (i := 0) rfl rfl ?_
              refine wa_Vv (d9 := d - 1) [] [] (sp_X8_next G (d := d - 1) (by omega) s75 ) (rfl) rfl rfl (zr (by omega)) mk_X8_next ly_30 ml_8_98 (Nat.le_of_ble_eq_true rfl) (fun s76 hs76 => ?_)
              obtain ⟨fs76, -⟩ := hs76
              have Fs76 : Fm [10, 30] [] σ s76 := Fm.tr Fs75 (Fm.wd fs76 rfl rfl)
              refine wa_return (st := []) rfl rfl ?_
              exact ⟨Fs76, trivial⟩
          · refine wa_aload_n (i := 0) rfl rfl ?_
            refine wa_iconst (v := 5) (by decide) ?_
            refine wa_Vv (d9 := d - 1) [.int _] [] (sp_X8_fail G (d := d - 1) (by omega) σ _) (rfl) rfl rfl (zr (by omega)) mk_X8_fail ly_30 ml_8_95 (Nat.le_of_ble_eq_true rfl) (fun s78 hs78 => ?_)
            obtain ⟨fs78, -⟩ := hs78
            have Fs78 : Fm [10, 30] [] σ s78 := Fm.tr (Fm.rf [10, 30] [] σ) (Fm.wd fs78 rfl rfl)
            refine wa_goto o_X8_accept_132 (by decide) ?_
            refine wa_return (st := []) rfl rfl ?_
            exact ⟨Fs78, trivial⟩
    · refine wa_aload_n (i := 0) rfl rfl ?_
      refine wa_iconst (v := 2) (by decide) ?_
      refine wa_Vv (d9 := d - 1) [.int _] [] (sp_X8_fail G (d := d - 1) (by omega) σ _) (rfl) rfl rfl (zr (by omega)) mk_X8_fail ly_30 ml_8_95 (Nat.le_of_ble_eq_true rfl) (fun s80 hs80 => ?_)
      obtain ⟨fs80, -⟩ := hs80
      have Fs80 : Fm [10, 30] [] σ s80 := Fm.tr (Fm.rf [10, 30] [] σ) (Fm.wd fs80 rfl rfl)
      refine wa_goto o_X8_accept_132 (by decide) ?_
      refine wa_return (st := []) rfl rfl ?_
      exact ⟨Fs80, trivial⟩
  · refine wa_iload_n (i := 1) rfl rfl ?_
    refine wa_iconst (v := 4) (by decide) ?_
    refine wa_icmp_eq o_X8_accept_17 (by decide) (fun h82 => ?_) (fun h82 => ?_)
    · refine wa_iconst (v := 1) (by decide) ?_
      refine wa_goto o_X8_accept_22 (by decide) ?_
      refine wa_istore_nD (lv' := [(3, .int (bI true)), (0, .ref 30), (1, .int a0), (2, .int a1)]) (i := 3) rfl (by decide) rfl ?_
      refine wa_aload_n (i := 0) rfl rfl ?_
      refine wa_geti ck_8 fl_8_39 ly_30 ?_
      refine wa_iload_n (i := 1) rfl rfl ?_
      refine wa_icmp_eq o_X8_accept_39 (by decide) (fun h83 => ?_) (fun h83 => ?_)
      · refine wa_aload_n (i := 0) rfl rfl ?_
        refine wa_geti ck_8 fl_8_167 ly_30 ?_
        refine wa_bipush (v := 120) (by decide) ?_
        refine wa_icmp_ge o_X8_accept_61 (by decide) (fun h84 => ?_) (fun h84 => ?_)
        · refine wa_aload_n (i := 0) rfl rfl ?_
          refine wa_iconst (v := 5) (by decide) ?_
          refine wa_Vv (d9 := d - 1) [.int _] [] (sp_X8_fail G (d := d - 1) (by omega) σ _) (rfl) rfl rfl (zr (by omega)) mk_X8_fail ly_30 ml_8_95 (Nat.le_of_ble_eq_true rfl) (fun s85 hs85 => ?_)
          obtain ⟨fs85, -⟩ := hs85
          have Fs85 : Fm [10, 30] [] σ s85 := Fm.tr (Fm.rf [10, 30] [] σ) (Fm.wd fs85 rfl rfl)
          refine wa_goto o_X8_accept_132 (by decide) ?_
          refine wa_return (st := []) rfl rfl ?_
          exact ⟨Fs85, trivial⟩
        · have mh84 := nle_mx h84
          refine wa_iload_n (i := 3) rfl rfl ?_
          refine wa_if_eq o_X8_accept_69 (by decide) (fun h87 => ?_) (fun h87 => ?_)
          · replace h87 := bI_f (b := true) (rfl) h87
            refine wa_aload_n (i := 0) rfl rfl ?_
            refine wa_dup rfl ?_
            refine wa_geti ck_8 fl_8_173 ly_30 ?_
            refine wa_iload_n (i := 3) rfl rfl ?_
            refine wa_if_eq o_X8_accept_82 (by decide) (fun h88 => ?_) (fun h88 => ?_)
            · replace h88 := bI_f (b := true) (rfl) h88
              refine wa_iload_n (i := 1) rfl rfl ?_
              refine wa_iconst (v := 5) (by decide) ?_
              refine wa_icmp_eq o_X8_accept_93 (by decide) (fun h89 => ?_) (fun h89 => ?_)
              · refine wa_iconst (v := (-1)) (by decide) ?_
                refine wa_goto o_X8_accept_98 (by decide) ?_
                refine wa_iadd ?_
                refine wa_top (fun v90 hv90 => ?_)
                have tv90 := i_addT hv90
                clear hv90
                refine wa_puti ck_8 fl_8_173 ly_30 (fun s91 hs91 => ?_)
                have Fs91 : Fm [10, 30] [] σ s91 := by rw [hs91]; exact Fm.si (Fm.rf [10, 30] [] σ) rfl
                refine wa_aload_n (i := 0) rfl rfl ?_
                refine wa_getr ck_8 fl_8_15 ly_30 rf_30_1 ?_
                refine wa_aload_n (i := 0) rfl rfl ?_
                refine wa_geti ck_8 fl_8_164 ly_30 ?_
                refine wa_rw (nxk_gi_si hs91 (by decide)) ?_
                refine wa_aload_n (i := 0) rfl rfl ?_
                refine wa_geti ck_8 fl_8_167 ly_30 ?_
                refine wa_rw (nxk_gi_si hs91 (by decide)) ?_
                refine wa_iload_n (i := 2) rfl rfl ?_
                refine wa_Vv (d9 := d - 1) [.int _, .int _, .int _] [] (sp_X2_setToken G (d := d - 1) (by omega) s91 _ _ _) (rfl) rfl rfl (zr (by omega)) mk_X2_setToken ly_7 ml_8_185 (Nat.le_of_ble_eq_true rfl) (fun s92 hs92 => ?_)
                obtain ⟨fs92, -⟩ := hs92
                have Fs92 : Fm [10, 30] [] σ s92 := Fm.tr Fs91 (Fm.ofSm fs92 rfl)
                refine wa_aload_n (i := 0) rfl rfl ?_
                refine wa_dup rfl ?_
                refine wa_geti ck_8 fl_8_167 ly_30 ?_
                refine wa_rw ((Sm.gi fs92 12 (Or.inr (by decide))).trans (nxk_gi_si hs91 (by decide))) ?_
                refine wa_iconst (v := 1) (by decide) ?_
                refine wa_iadd ?_
                refine wa_top (fun v94 hv94 => ?_)
                have tv94 := i_addT hv94
                clear hv94
                refine wa_puti ck_8 fl_8_167 ly_30 (fun s95 hs95 => ?_)
                have Fs95 : Fm [10, 30] [] σ s95 := by rw [hs95]; exact Fm.si Fs92 rfl
                refine wa_aload_n (i := 0) rfl rfl ?_
                refine wa_Vv (d9 := d - 1) [] [] (sp_X8_next G (d := d - 1) (by omega) s95 ) (rfl) rfl rfl (zr (by omega)) mk_X8_next ly_30 ml_8_98 (Nat.le_of_ble_eq_true rfl) (fun s96 hs96 => ?_)
                obtain ⟨fs96, -⟩ := hs96
                have Fs96 : Fm [10, 30] [] σ s96 := Fm.tr Fs95 (Fm.wd fs96 rfl rfl)
                refine wa_return (st := []) rfl rfl ?_
                exact ⟨Fs96, trivial⟩
              · refine wa_iload_n (i := 1) rfl rfl ?_
                refine wa_bipush (v := 7) (by decide) ?_
                refine wa_icmp_ne o_X8_accept_97 (by decide) (fun h98 => ?_) (fun h98 => ?_)
                · refine wa_iconst (v := 0) (by decide) ?_
                  refine wa_iadd ?_
                  refine wa_top (fun v99 hv99 => ?_)
                  have tv99 := i_addT hv99
                  clear hv99
                  refine wa_puti ck_8 fl_8_173 ly_30 (fun s100 hs100 => ?_)
                  have Fs100 : Fm [10, 30] [] σ s100 := by rw [hs100]; exact Fm.si (Fm.rf [10, 30] [] σ) rfl
                  refine wa_aload_n (i := 0) rfl rfl ?_
                  refine wa_getr ck_8 fl_8_15 ly_30 rf_30_1 ?_
                  refine wa_aload_n (i := 0) rfl rfl ?_
                  refine wa_geti ck_8 fl_8_164 ly_30 ?_
                  refine wa_rw (nxk_gi_si hs100 (by decide)) ?_
                  refine wa_aload_n (i := 0) rfl rfl ?_
                  refine wa_geti ck_8 fl_8_167 ly_30 ?_
                  refine wa_rw (nxk_gi_si hs100 (by decide)) ?_
                  refine wa_iload_n (i := 2) rfl rfl ?_
                  refine wa_Vv (d9 := d - 1) [.int _, .int _, .int _] [] (sp_X2_setToken G (d := d - 1) (by omega) s100 _ _ _) (rfl) rfl rfl (zr (by omega)) mk_X2_setToken ly_7 ml_8_185 (Nat.le_of_ble_eq_true rfl) (fun s101 hs101 => ?_)
                  obtain ⟨fs101, -⟩ := hs101
                  have Fs101 : Fm [10, 30] [] σ s101 := Fm.tr Fs100 (Fm.ofSm fs101 rfl)
                  refine wa_aload_n (i := 0) rfl rfl ?_
                  refine wa_dup rfl ?_
                  refine wa_geti ck_8 fl_8_167 ly_30 ?_
                  refine wa_rw ((Sm.gi fs101 12 (Or.inr (by decide))).trans (nxk_gi_si hs100 (by decide))) ?_
                  refine wa_iconst (v := 1) (by decide) ?_
                  refine wa_iadd ?_
                  refine wa_top (fun v103 hv103 => ?_)
                  have tv103 := i_addT hv103
                  clear hv103
                  refine wa_puti ck_8 fl_8_167 ly_30 (fun s104 hs104 => ?_)
                  have Fs104 : Fm [10, 30] [] σ s104 := by rw [hs104]; exact Fm.si Fs101 rfl
                  refine wa_aload_n (i := 0) rfl rfl ?_
                  refine wa_Vv (d9 := d - 1) [] [] (sp_X8_next G (d := d - 1) (by omega) s104 ) (rfl) rfl rfl (zr (by omega)) mk_X8_next ly_30 ml_8_98 (Nat.le_of_ble_eq_true rfl) (fun s105 hs105 => ?_)
                  obtain ⟨fs105, -⟩ := hs105
                  have Fs105 : Fm [10, 30] [] σ s105 := Fm.tr Fs104 (Fm.wd fs105 rfl rfl)
                  refine wa_return (st := []) rfl rfl ?_
                  exact ⟨Fs105, trivial⟩
                · refine wa_iconst (v := (-1)) (by decide) ?_
                  refine wa_goto o_X8_accept_98 (by decide) ?_
                  refine wa_iadd ?_
                  refine wa_top (fun v107 hv107 => ?_)
                  have tv107 := i_addT hv107
                  clear hv107
                  refine wa_puti ck_8 fl_8_173 ly_30 (fun s108 hs108 => ?_)
                  have Fs108 : Fm [10, 30] [] σ s108 := by rw [hs108]; exact Fm.si (Fm.rf [10, 30] [] σ) rfl
                  refine wa_aload_n (i := 0) rfl rfl ?_
                  refine wa_getr ck_8 fl_8_15 ly_30 rf_30_1 ?_
                  refine wa_aload_n (i := 0) rfl rfl ?_
                  refine wa_geti ck_8 fl_8_164 ly_30 ?_
                  refine wa_rw (nxk_gi_si hs108 (by decide)) ?_
                  refine wa_aload_n (i := 0) rfl rfl ?_
                  refine wa_geti ck_8 fl_8_167 ly_30 ?_
                  refine wa_rw (nxk_gi_si hs108 (by decide)) ?_
                  refine wa_iload_n (i := 2) rfl rfl ?_
                  refine wa_Vv (d9 := d - 1) [.int _, .int _, .int _] [] (sp_X2_setToken G (d := d - 1) (by omega) s108 _ _ _) (rfl) rfl rfl (zr (by omega)) mk_X2_setToken ly_7 ml_8_185 (Nat.le_of_ble_eq_true rfl) (fun s109 hs109 => ?_)
                  obtain ⟨fs109, -⟩ := hs109
                  have Fs109 : Fm [10, 30] [] σ s109 := Fm.tr Fs108 (Fm.ofSm fs109 rfl)
                  refine wa_aload_n (i := 0) rfl rfl ?_
                  refine wa_dup rfl ?_
                  refine wa_geti ck_8 fl_8_167 ly_30 ?_
                  refine wa_rw ((Sm.gi fs109 12 (Or.inr (by decide))).trans (nxk_gi_si hs108 (by decide))) ?_
                  refine wa_iconst (v := 1) (by decide) ?_
                  refine wa_iadd ?_
                  refine wa_top (fun v111 hv111 => ?_)
                  have tv111 := i_addT hv111
                  clear hv111
                  refine wa_puti ck_8 fl_8_167 ly_30 (fun s112 hs112 => ?_)
                  have Fs112 : Fm [10, 30] [] σ s112 := by rw [hs112]; exact Fm.si Fs109 rfl
                  refine wa_aload_n (i := 0) rfl rfl ?_
                  refine wa_Vv (d9 := d - 1) [] [] (sp_X8_next G (d := d - 1) (by omega) s112 ) (rfl) rfl rfl (zr (by omega)) mk_X8_next ly_30 ml_8_98 (Nat.le_of_ble_eq_true rfl) (fun s113 hs113 => ?_)
                  obtain ⟨fs113, -⟩ := hs113
                  have Fs113 : Fm [10, 30] [] σ s113 := Fm.tr Fs112 (Fm.wd fs113 rfl rfl)
                  refine wa_return (st := []) rfl rfl ?_
                  exact ⟨Fs113, trivial⟩
            · replace h88 := bI_t (b := true) (rfl) h88
              refine wa_iconst (v := 1) (by decide) ?_
              refine wa_goto o_X8_accept_98 (by decide) ?_
              refine wa_iadd ?_
              refine wa_top (fun v115 hv115 => ?_)
              have tv115 := i_addT hv115
              clear hv115
              refine wa_puti ck_8 fl_8_173 ly_30 (fun s116 hs116 => ?_)
              have Fs116 : Fm [10, 30] [] σ s116 := by rw [hs116]; exact Fm.si (Fm.rf [10, 30] [] σ) rfl
              refine wa_aload_n (i := 0) rfl rfl ?_
              refine wa_getr ck_8 fl_8_15 ly_30 rf_30_1 ?_
              refine wa_aload_n (i := 0) rfl rfl ?_
              refine wa_geti ck_8 fl_8_164 ly_30 ?_
              refine wa_rw (nxk_gi_si hs116 (by decide)) ?_
              refine wa_aload_n (i := 0) rfl rfl ?_
              refine wa_geti ck_8 fl_8_167 ly_30 ?_
              refine wa_rw (nxk_gi_si hs116 (by decide)) ?_
              refine wa_iload_n (i := 2) rfl rfl ?_
              refine wa_Vv (d9 := d - 1) [.int _, .int _, .int _] [] (sp_X2_setToken G (d := d - 1) (by omega) s116 _ _ _) (rfl) rfl rfl (zr (by omega)) mk_X2_setToken ly_7 ml_8_185 (Nat.le_of_ble_eq_true rfl) (fun s117 hs117 => ?_)
              obtain ⟨fs117, -⟩ := hs117
              have Fs117 : Fm [10, 30] [] σ s117 := Fm.tr Fs116 (Fm.ofSm fs117 rfl)
              refine wa_aload_n (i := 0) rfl rfl ?_
              refine wa_dup rfl ?_
              refine wa_geti ck_8 fl_8_167 ly_30 ?_
              refine wa_rw ((Sm.gi fs117 12 (Or.inr (by decide))).trans (nxk_gi_si hs116 (by decide))) ?_
              refine wa_iconst (v := 1) (by decide) ?_
              refine wa_iadd ?_
              refine wa_top (fun v119 hv119 => ?_)
              have tv119 := i_addT hv119
              clear hv119
              refine wa_puti ck_8 fl_8_167 ly_30 (fun s120 hs120 => ?_)
              have Fs120 : Fm [10, 30] [] σ s120 := by rw [hs120]; exact Fm.si Fs117 rfl
              refine wa_aload_n (i := 0) rfl rfl ?_
              refine wa_Vv (d9 := d - 1) [] [] (sp_X8_next G (d := d - 1) (by omega) s120 ) (rfl) rfl rfl (zr (by omega)) mk_X8_next ly_30 ml_8_98 (Nat.le_of_ble_eq_true rfl) (fun s121 hs121 => ?_)
              obtain ⟨fs121, -⟩ := hs121
              have Fs121 : Fm [10, 30] [] σ s121 := Fm.tr Fs120 (Fm.wd fs121 rfl rfl)
              refine wa_return (st := []) rfl rfl ?_
              exact ⟨Fs121, trivial⟩
          · replace h87 := bI_t (b := true) (rfl) h87
            refine wa_aload_n (i := 0) rfl rfl ?_
            refine wa_geti ck_8 fl_8_173 ly_30 ?_
            refine wa_bipush (v := 12) (by decide) ?_
            refine wa_icmp_lt o_X8_accept_69 (by decide) (fun h123 => ?_) (fun h123 => ?_)
            · refine wa_aload_n (i := 0) rfl rfl ?_
              refine wa_dup rfl ?_
              refine wa_geti ck_8 fl_8_173 ly_30 ?_
              refine wa_iload_n (i := 3) rfl rfl ?_
              refine wa_if_eq o_X8_accept_82 (by decide) (fun h124 => ?_) (fun h124 => ?_)
              · replace h124 := bI_f (b := true) (rfl) h124
                refine wa_iload_n (i := 1) rfl rfl ?_
                refine wa_iconst (v := 5) (by decide) ?_
                refine wa_icmp_eq o_X8_accept_93 (by decide) (fun h125 => ?_) (fun h125 => ?_)
                · refine wa_iconst (v := (-1)) (by decide) ?_
                  refine wa_goto o_X8_accept_98 (by decide) ?_
                  refine wa_iadd ?_
                  refine wa_top (fun v126 hv126 => ?_)
                  have tv126 := i_addT hv126
                  clear hv126
                  refine wa_puti ck_8 fl_8_173 ly_30 (fun s127 hs127 => ?_)
                  have Fs127 : Fm [10, 30] [] σ s127 := by rw [hs127]; exact Fm.si (Fm.rf [10, 30] [] σ) rfl
                  refine wa_aload_n (i := 0) rfl rfl ?_
                  refine wa_getr ck_8 fl_8_15 ly_30 rf_30_1 ?_
                  refine wa_aload_n (i := 0) rfl rfl ?_
                  refine wa_geti ck_8 fl_8_164 ly_30 ?_
                  refine wa_rw (nxk_gi_si hs127 (by decide)) ?_
                  refine wa_aload_n (i := 0) rfl rfl ?_
                  refine wa_geti ck_8 fl_8_167 ly_30 ?_
                  refine wa_rw (nxk_gi_si hs127 (by decide)) ?_
                  refine wa_iload_n (i := 2) rfl rfl ?_
                  refine wa_Vv (d9 := d - 1) [.int _, .int _, .int _] [] (sp_X2_setToken G (d := d - 1) (by omega) s127 _ _ _) (rfl) rfl rfl (zr (by omega)) mk_X2_setToken ly_7 ml_8_185 (Nat.le_of_ble_eq_true rfl) (fun s128 hs128 => ?_)
                  obtain ⟨fs128, -⟩ := hs128
                  have Fs128 : Fm [10, 30] [] σ s128 := Fm.tr Fs127 (Fm.ofSm fs128 rfl)
                  refine wa_aload_n (i := 0) rfl rfl ?_
                  refine wa_dup rfl ?_
                  refine wa_geti ck_8 fl_8_167 ly_30 ?_
                  refine wa_rw ((Sm.gi fs128 12 (Or.inr (by decide))).trans (nxk_gi_si hs127 (by decide))) ?_
                  refine wa_iconst (v := 1) (by decide) ?_
                  refine wa_iadd ?_
                  refine wa_top (fun v130 hv130 => ?_)
                  have tv130 := i_addT hv130
                  clear hv130
                  refine wa_puti ck_8 fl_8_167 ly_30 (fun s131 hs131 => ?_)
                  have Fs131 : Fm [10, 30] [] σ s131 := by rw [hs131]; exact Fm.si Fs128 rfl
                  refine wa_aload_n (i := 0) rfl rfl ?_
                  refine wa_Vv (d9 := d - 1) [] [] (sp_X8_next G (d := d - 1) (by omega) s131 ) (rfl) rfl rfl (zr (by omega)) mk_X8_next ly_30 ml_8_98 (Nat.le_of_ble_eq_true rfl) (fun s132 hs132 => ?_)
                  obtain ⟨fs132, -⟩ := hs132
                  have Fs132 : Fm [10, 30] [] σ s132 := Fm.tr Fs131 (Fm.wd fs132 rfl rfl)
                  refine wa_return (st := []) rfl rfl ?_
                  exact ⟨Fs132, trivial⟩
                · refine wa_iload_n (i := 1) rfl rfl ?_
                  refine wa_bipush (v := 7) (by decide) ?_
                  refine wa_icmp_ne o_X8_accept_97 (by decide) (fun h134 => ?_) (fun h134 => ?_)
                  · refine wa_iconst (v := 0) (by decide) ?_
                    refine wa_iadd ?_
                    refine wa_top (fun v135 hv135 => ?_)
                    have tv135 := i_addT hv135
                    clear hv135
                    refine wa_puti ck_8 fl_8_173 ly_30 (fun s136 hs136 => ?_)
                    have Fs136 : Fm [10, 30] [] σ s136 := by rw [hs136]; exact Fm.si (Fm.rf [10, 30] [] σ) rfl
                    refine wa_aload_n (i := 0) rfl rfl ?_
                    refine wa_getr ck_8 fl_8_15 ly_30 rf_30_1 ?_
                    refine wa_aload_n (i := 0) rfl rfl ?_
                    refine wa_geti ck_8 fl_8_164 ly_30 ?_
                    refine wa_rw (nxk_gi_si hs136 (by decide)) ?_
                    refine wa_aload_n (i := 0) rfl rfl ?_
                    refine wa_geti ck_8 fl_8_167 ly_30 ?_
                    refine wa_rw (nxk_gi_si hs136 (by decide)) ?_
                    refine wa_iload_n (i := 2) rfl rfl ?_
                    refine wa_Vv (d9 := d - 1) [.int _, .int _, .int _] [] (sp_X2_setToken G (d := d - 1) (by omega) s136 _ _ _) (rfl) rfl rfl (zr (by omega)) mk_X2_setToken ly_7 ml_8_185 (Nat.le_of_ble_eq_true rfl) (fun s137 hs137 => ?_)
                    obtain ⟨fs137, -⟩ := hs137
                    have Fs137 : Fm [10, 30] [] σ s137 := Fm.tr Fs136 (Fm.ofSm fs137 rfl)
                    refine wa_aload_n (i := 0) rfl rfl ?_
                    refine wa_dup rfl ?_
                    refine wa_geti ck_8 fl_8_167 ly_30 ?_
                    refine wa_rw ((Sm.gi fs137 12 (Or.inr (by decide))).trans (nxk_gi_si hs136 (by decide))) ?_
                    refine wa_iconst (v := 1) (by decide) ?_
                    refine wa_iadd ?_
                    refine wa_top (fun v139 hv139 => ?_)
                    have tv139 := i_addT hv139
                    clear hv139
                    refine wa_puti ck_8 fl_8_167 ly_30 (fun s140 hs140 => ?_)
                    have Fs140 : Fm [10, 30] [] σ s140 := by rw [hs140]; exact Fm.si Fs137 rfl
                    refine wa_aload_n (i := 0) rfl rfl ?_
                    refine wa_Vv (d9 := d - 1) [] [] (sp_X8_next G (d := d - 1) (by omega) s140 ) (rfl) rfl rfl (zr (by omega)) mk_X8_next ly_30 ml_8_98 (Nat.le_of_ble_eq_true rfl) (fun s141 hs141 => ?_)
                    obtain ⟨fs141, -⟩ := hs141
                    have Fs141 : Fm [10, 30] [] σ s141 := Fm.tr Fs140 (Fm.wd fs141 rfl rfl)
                    refine wa_return (st := []) rfl rfl ?_
                    exact ⟨Fs141, trivial⟩
                  · refine wa_iconst (v := (-1)) (by decide) ?_
                    refine wa_goto o_X8_accept_98 (by decide) ?_
                    refine wa_iadd ?_
                    refine wa_top (fun v143 hv143 => ?_)
                    have tv143 := i_addT hv143
                    clear hv143
                    refine wa_puti ck_8 fl_8_173 ly_30 (fun s144 hs144 => ?_)
                    have Fs144 : Fm [10, 30] [] σ s144 := by rw [hs144]; exact Fm.si (Fm.rf [10, 30] [] σ) rfl
                    refine wa_aload_n (i := 0) rfl rfl ?_
                    refine wa_getr ck_8 fl_8_15 ly_30 rf_30_1 ?_
                    refine wa_aload_n (i := 0) rfl rfl ?_
                    refine wa_geti ck_8 fl_8_164 ly_30 ?_
                    refine wa_rw (nxk_gi_si hs144 (by decide)) ?_
                    refine wa_aload_n (i := 0) rfl rfl ?_
                    refine wa_geti ck_8 fl_8_167 ly_30 ?_
                    refine wa_rw (nxk_gi_si hs144 (by decide)) ?_
                    refine wa_iload_n (i := 2) rfl rfl ?_
                    refine wa_Vv (d9 := d - 1) [.int _, .int _, .int _] [] (sp_X2_setToken G (d := d - 1) (by omega) s144 _ _ _) (rfl) rfl rfl (zr (by omega)) mk_X2_setToken ly_7 ml_8_185 (Nat.le_of_ble_eq_true rfl) (fun s145 hs145 => ?_)
                    obtain ⟨fs145, -⟩ := hs145
                    have Fs145 : Fm [10, 30] [] σ s145 := Fm.tr Fs144 (Fm.ofSm fs145 rfl)
                    refine wa_aload_n (i := 0) rfl rfl ?_
                    refine wa_dup rfl ?_
                    refine wa_geti ck_8 fl_8_167 ly_30 ?_
                    refine wa_rw ((Sm.gi fs145 12 (Or.inr (by decide))).trans (nxk_gi_si hs144 (by decide))) ?_
                    refine wa_iconst (v := 1) (by decide) ?_
                    refine wa_iadd ?_
                    refine wa_top (fun v147 hv147 => ?_)
                    have tv147 := i_addT hv147
                    clear hv147
                    refine wa_puti ck_8 fl_8_167 ly_30 (fun s148 hs148 => ?_)
                    have Fs148 : Fm [10, 30] [] σ s148 := by rw [hs148]; exact Fm.si Fs145 rfl
                    refine wa_aload_n (i := 0) rfl rfl ?_
                    refine wa_Vv (d9 := d - 1) [] [] (sp_X8_next G (d := d - 1) (by omega) s148 ) (rfl) rfl rfl (zr (by omega)) mk_X8_next ly_30 ml_8_98 (Nat.le_of_ble_eq_true rfl) (fun s149 hs149 => ?_)
                    obtain ⟨fs149, -⟩ := hs149
                    have Fs149 : Fm [10, 30] [] σ s149 := Fm.tr Fs148 (Fm.wd fs149 rfl rfl)
                    refine wa_return (st := []) rfl rfl ?_
                    exact ⟨Fs149, trivial⟩
              · replace h124 := bI_t (b := true) (rfl) h124
                refine wa_iconst (v := 1) (by decide) ?_
                refine wa_goto o_X8_accept_98 (by decide) ?_
                refine wa_iadd ?_
                refine wa_top (fun v151 hv151 => ?_)
                have tv151 := i_addT hv151
                clear hv151
                refine wa_puti ck_8 fl_8_173 ly_30 (fun s152 hs152 => ?_)
                have Fs152 : Fm [10, 30] [] σ s152 := by rw [hs152]; exact Fm.si (Fm.rf [10, 30] [] σ) rfl
                refine wa_aload_n (i := 0) rfl rfl ?_
                refine wa_getr ck_8 fl_8_15 ly_30 rf_30_1 ?_
                refine wa_aload_n (i := 0) rfl rfl ?_
                refine wa_geti ck_8 fl_8_164 ly_30 ?_
                refine wa_rw (nxk_gi_si hs152 (by decide)) ?_
                refine wa_aload_n (i := 0) rfl rfl ?_
                refine wa_geti ck_8 fl_8_167 ly_30 ?_
                refine wa_rw (nxk_gi_si hs152 (by decide)) ?_
                refine wa_iload_n (i := 2) rfl rfl ?_
                refine wa_Vv (d9 := d - 1) [.int _, .int _, .int _] [] (sp_X2_setToken G (d := d - 1) (by omega) s152 _ _ _) (rfl) rfl rfl (zr (by omega)) mk_X2_setToken ly_7 ml_8_185 (Nat.le_of_ble_eq_true rfl) (fun s153 hs153 => ?_)
                obtain ⟨fs153, -⟩ := hs153
                have Fs153 : Fm [10, 30] [] σ s153 := Fm.tr Fs152 (Fm.ofSm fs153 rfl)
                refine wa_aload_n (i := 0) rfl rfl ?_
                refine wa_dup rfl ?_
                refine wa_geti ck_8 fl_8_167 ly_30 ?_
                refine wa_rw ((Sm.gi fs153 12 (Or.inr (by decide))).trans (nxk_gi_si hs152 (by decide))) ?_
                refine wa_iconst (v := 1) (by decide) ?_
                refine wa_iadd ?_
                refine wa_top (fun v155 hv155 => ?_)
                have tv155 := i_addT hv155
                clear hv155
                refine wa_puti ck_8 fl_8_167 ly_30 (fun s156 hs156 => ?_)
                have Fs156 : Fm [10, 30] [] σ s156 := by rw [hs156]; exact Fm.si Fs153 rfl
                refine wa_aload_n (i := 0) rfl rfl ?_
                refine wa_Vv (d9 := d - 1) [] [] (sp_X8_next G (d := d - 1) (by omega) s156 ) (rfl) rfl rfl (zr (by omega)) mk_X8_next ly_30 ml_8_98 (Nat.le_of_ble_eq_true rfl) (fun s157 hs157 => ?_)
                obtain ⟨fs157, -⟩ := hs157
                have Fs157 : Fm [10, 30] [] σ s157 := Fm.tr Fs156 (Fm.wd fs157 rfl rfl)
                refine wa_return (st := []) rfl rfl ?_
                exact ⟨Fs157, trivial⟩
            · refine wa_aload_n (i := 0) rfl rfl ?_
              refine wa_iconst (v := 5) (by decide) ?_
              refine wa_Vv (d9 := d - 1) [.int _] [] (sp_X8_fail G (d := d - 1) (by omega) σ _) (rfl) rfl rfl (zr (by omega)) mk_X8_fail ly_30 ml_8_95 (Nat.le_of_ble_eq_true rfl) (fun s159 hs159 => ?_)
              obtain ⟨fs159, -⟩ := hs159
              have Fs159 : Fm [10, 30] [] σ s159 := Fm.tr (Fm.rf [10, 30] [] σ) (Fm.wd fs159 rfl rfl)
              refine wa_goto o_X8_accept_132 (by decide) ?_
              refine wa_return (st := []) rfl rfl ?_
              exact ⟨Fs159, trivial⟩
      · refine wa_aload_n (i := 0) rfl rfl ?_
        refine wa_iconst (v := 2) (by decide) ?_
        refine wa_Vv (d9 := d - 1) [.int _] [] (sp_X8_fail G (d := d - 1) (by omega) σ _) (rfl) rfl rfl (zr (by omega)) mk_X8_fail ly_30 ml_8_95 (Nat.le_of_ble_eq_true rfl) (fun s161 hs161 => ?_)
        obtain ⟨fs161, -⟩ := hs161
        have Fs161 : Fm [10, 30] [] σ s161 := Fm.tr (Fm.rf [10, 30] [] σ) (Fm.wd fs161 rfl rfl)
        refine wa_goto o_X8_accept_132 (by decide) ?_
        refine wa_return (st := []) rfl rfl ?_
        exact ⟨Fs161, trivial⟩
    · refine wa_iload_n (i := 1) rfl rfl ?_
      refine wa_bipush (v := 6) (by decide) ?_
      refine wa_icmp_ne o_X8_accept_21 (by decide) (fun h163 => ?_) (fun h163 => ?_)
      · refine wa_iconst (v := 0) (by decide) ?_
        refine wa_istore_nD (lv' := [(3, .int (bI false)), (0, .ref 30), (1, .int a0), (2, .int a1)]) (i := 3) rfl (by decide) rfl ?_
        refine wa_aload_n (i := 0) rfl rfl ?_
        refine wa_geti ck_8 fl_8_39 ly_30 ?_
        refine wa_iload_n (i := 1) rfl rfl ?_
        refine wa_icmp_eq o_X8_accept_39 (by decide) (fun h164 => ?_) (fun h164 => ?_)
        · refine wa_aload_n (i := 0) rfl rfl ?_
          refine wa_geti ck_8 fl_8_167 ly_30 ?_
          refine wa_bipush (v := 120) (by decide) ?_
          refine wa_icmp_ge o_X8_accept_61 (by decide) (fun h165 => ?_) (fun h165 => ?_)
          · refine wa_aload_n (i := 0) rfl rfl ?_
            refine wa_iconst (v := 5) (by decide) ?_
            refine wa_Vv (d9 := d - 1) [.int _] [] (sp_X8_fail G (d := d - 1) (by omega) σ _) (rfl) rfl rfl (zr (by omega)) mk_X8_fail ly_30 ml_8_95 (Nat.le_of_ble_eq_true rfl) (fun s166 hs166 => ?_)
            obtain ⟨fs166, -⟩ := hs166
            have Fs166 : Fm [10, 30] [] σ s166 := Fm.tr (Fm.rf [10, 30] [] σ) (Fm.wd fs166 rfl rfl)
            refine wa_goto o_X8_accept_132 (by decide) ?_
            refine wa_return (st := []) rfl rfl ?_
            exact ⟨Fs166, trivial⟩
          · have mh165 := nle_mx h165
            refine wa_iload_n (i := 3) rfl rfl ?_
            refine wa_if_eq o_X8_accept_69 (by decide) (fun h168 => ?_) (fun h168 => ?_)
            · replace h168 := bI_f (b := false) (rfl) h168
              refine wa_aload_n (i := 0) rfl rfl ?_
              refine wa_dup rfl ?_
              refine wa_geti ck_8 fl_8_173 ly_30 ?_
              refine wa_iload_n (i := 3) rfl rfl ?_
              refine wa_if_eq o_X8_accept_82 (by decide) (fun h169 => ?_) (fun h169 => ?_)
              · replace h169 := bI_f (b := false) (rfl) h169
                refine wa_iload_n (i := 1) rfl rfl ?_
                refine wa_iconst (v := 5) (by decide) ?_
                refine wa_icmp_eq o_X8_accept_93 (by decide) (fun h170 => ?_) (fun h170 => ?_)
                · refine wa_iconst (v := (-1)) (by decide) ?_
                  refine wa_goto o_X8_accept_98 (by decide) ?_
                  refine wa_iadd ?_
                  refine wa_top (fun v171 hv171 => ?_)
                  have tv171 := i_addT hv171
                  clear hv171
                  refine wa_puti ck_8 fl_8_173 ly_30 (fun s172 hs172 => ?_)
                  have Fs172 : Fm [10, 30] [] σ s172 := by rw [hs172]; exact Fm.si (Fm.rf [10, 30] [] σ) rfl
                  refine wa_aload_n (i := 0) rfl rfl ?_
                  refine wa_getr ck_8 fl_8_15 ly_30 rf_30_1 ?_
                  refine wa_aload_n (i := 0) rfl rfl ?_
                  refine wa_geti ck_8 fl_8_164 ly_30 ?_
                  refine wa_rw (nxk_gi_si hs172 (by decide)) ?_
                  refine wa_aload_n (i := 0) rfl rfl ?_
                  refine wa_geti ck_8 fl_8_167 ly_30 ?_
                  refine wa_rw (nxk_gi_si hs172 (by decide)) ?_
                  refine wa_iload_n (i := 2) rfl rfl ?_
                  refine wa_Vv (d9 := d - 1) [.int _, .int _, .int _] [] (sp_X2_setToken G (d := d - 1) (by omega) s172 _ _ _) (rfl) rfl rfl (zr (by omega)) mk_X2_setToken ly_7 ml_8_185 (Nat.le_of_ble_eq_true rfl) (fun s173 hs173 => ?_)
                  obtain ⟨fs173, -⟩ := hs173
                  have Fs173 : Fm [10, 30] [] σ s173 := Fm.tr Fs172 (Fm.ofSm fs173 rfl)
                  refine wa_aload_n (i := 0) rfl rfl ?_
                  refine wa_dup rfl ?_
                  refine wa_geti ck_8 fl_8_167 ly_30 ?_
                  refine wa_rw ((Sm.gi fs173 12 (Or.inr (by decide))).trans (nxk_gi_si hs172 (by decide))) ?_
                  refine wa_iconst (v := 1) (by decide) ?_
                  refine wa_iadd ?_
                  refine wa_top (fun v175 hv175 => ?_)
                  have tv175 := i_addT hv175
                  clear hv175
                  refine wa_puti ck_8 fl_8_167 ly_30 (fun s176 hs176 => ?_)
                  have Fs176 : Fm [10, 30] [] σ s176 := by rw [hs176]; exact Fm.si Fs173 rfl
                  refine wa_aload_n (i := 0) rfl rfl ?_
                  refine wa_Vv (d9 := d - 1) [] [] (sp_X8_next G (d := d - 1) (by omega) s176 ) (rfl) rfl rfl (zr (by omega)) mk_X8_next ly_30 ml_8_98 (Nat.le_of_ble_eq_true rfl) (fun s177 hs177 => ?_)
                  obtain ⟨fs177, -⟩ := hs177
                  have Fs177 : Fm [10, 30] [] σ s177 := Fm.tr Fs176 (Fm.wd fs177 rfl rfl)
                  refine wa_return (st := []) rfl rfl ?_
                  exact ⟨Fs177, trivial⟩
                · refine wa_iload_n (i := 1) rfl rfl ?_
                  refine wa_bipush (v := 7) (by decide) ?_
                  refine wa_icmp_ne o_X8_accept_97 (by decide) (fun h179 => ?_) (fun h179 => ?_)
                  · refine wa_iconst (v := 0) (by decide) ?_
                    refine wa_iadd ?_
                    refine wa_top (fun v180 hv180 => ?_)
                    have tv180 := i_addT hv180
                    clear hv180
                    refine wa_puti ck_8 fl_8_173 ly_30 (fun s181 hs181 => ?_)
                    have Fs181 : Fm [10, 30] [] σ s181 := by rw [hs181]; exact Fm.si (Fm.rf [10, 30] [] σ) rfl
                    refine wa_aload_n (i := 0) rfl rfl ?_
                    refine wa_getr ck_8 fl_8_15 ly_30 rf_30_1 ?_
                    refine wa_aload_n (i := 0) rfl rfl ?_
                    refine wa_geti ck_8 fl_8_164 ly_30 ?_
                    refine wa_rw (nxk_gi_si hs181 (by decide)) ?_
                    refine wa_aload_n (i := 0) rfl rfl ?_
                    refine wa_geti ck_8 fl_8_167 ly_30 ?_
                    refine wa_rw (nxk_gi_si hs181 (by decide)) ?_
                    refine wa_iload_n (i := 2) rfl rfl ?_
                    refine wa_Vv (d9 := d - 1) [.int _, .int _, .int _] [] (sp_X2_setToken G (d := d - 1) (by omega) s181 _ _ _) (rfl) rfl rfl (zr (by omega)) mk_X2_setToken ly_7 ml_8_185 (Nat.le_of_ble_eq_true rfl) (fun s182 hs182 => ?_)
                    obtain ⟨fs182, -⟩ := hs182
                    have Fs182 : Fm [10, 30] [] σ s182 := Fm.tr Fs181 (Fm.ofSm fs182 rfl)
                    refine wa_aload_n (i := 0) rfl rfl ?_
                    refine wa_dup rfl ?_
                    refine wa_geti ck_8 fl_8_167 ly_30 ?_
                    refine wa_rw ((Sm.gi fs182 12 (Or.inr (by decide))).trans (nxk_gi_si hs181 (by decide))) ?_
                    refine wa_iconst (v := 1) (by decide) ?_
                    refine wa_iadd ?_
                    refine wa_top (fun v184 hv184 => ?_)
                    have tv184 := i_addT hv184
                    clear hv184
                    refine wa_puti ck_8 fl_8_167 ly_30 (fun s185 hs185 => ?_)
                    have Fs185 : Fm [10, 30] [] σ s185 := by rw [hs185]; exact Fm.si Fs182 rfl
                    refine wa_aload_n (i := 0) rfl rfl ?_
                    refine wa_Vv (d9 := d - 1) [] [] (sp_X8_next G (d := d - 1) (by omega) s185 ) (rfl) rfl rfl (zr (by omega)) mk_X8_next ly_30 ml_8_98 (Nat.le_of_ble_eq_true rfl) (fun s186 hs186 => ?_)
                    obtain ⟨fs186, -⟩ := hs186
                    have Fs186 : Fm [10, 30] [] σ s186 := Fm.tr Fs185 (Fm.wd fs186 rfl rfl)
                    refine wa_return (st := []) rfl rfl ?_
                    exact ⟨Fs186, trivial⟩
                  · refine wa_iconst (v := (-1)) (by decide) ?_
                    refine wa_goto o_X8_accept_98 (by decide) ?_
                    refine wa_iadd ?_
                    refine wa_top (fun v188 hv188 => ?_)
                    have tv188 := i_addT hv188
                    clear hv188
                    refine wa_puti ck_8 fl_8_173 ly_30 (fun s189 hs189 => ?_)
                    have Fs189 : Fm [10, 30] [] σ s189 := by rw [hs189]; exact Fm.si (Fm.rf [10, 30] [] σ) rfl
                    refine wa_aload_n (i := 0) rfl rfl ?_
                    refine wa_getr ck_8 fl_8_15 ly_30 rf_30_1 ?_
                    refine wa_aload_n (i := 0) rfl rfl ?_
                    refine wa_geti ck_8 fl_8_164 ly_30 ?_
                    refine wa_rw (nxk_gi_si hs189 (by decide)) ?_
                    refine wa_aload_n (i := 0) rfl rfl ?_
                    refine wa_geti ck_8 fl_8_167 ly_30 ?_
                    refine wa_rw (nxk_gi_si hs189 (by decide)) ?_
                    refine wa_iload_n (i := 2) rfl rfl ?_
                    refine wa_Vv (d9 := d - 1) [.int _, .int _, .int _] [] (sp_X2_setToken G (d := d - 1) (by omega) s189 _ _ _) (rfl) rfl rfl (zr (by omega)) mk_X2_setToken ly_7 ml_8_185 (Nat.le_of_ble_eq_true rfl) (fun s190 hs190 => ?_)
                    obtain ⟨fs190, -⟩ := hs190
                    have Fs190 : Fm [10, 30] [] σ s190 := Fm.tr Fs189 (Fm.ofSm fs190 rfl)
                    refine wa_aload_n (i := 0) rfl rfl ?_
                    refine wa_dup rfl ?_
                    refine wa_geti ck_8 fl_8_167 ly_30 ?_
                    refine wa_rw ((Sm.gi fs190 12 (Or.inr (by decide))).trans (nxk_gi_si hs189 (by decide))) ?_
                    refine wa_iconst (v := 1) (by decide) ?_
                    refine wa_iadd ?_
                    refine wa_top (fun v192 hv192 => ?_)
                    have tv192 := i_addT hv192
                    clear hv192
                    refine wa_puti ck_8 fl_8_167 ly_30 (fun s193 hs193 => ?_)
                    have Fs193 : Fm [10, 30] [] σ s193 := by rw [hs193]; exact Fm.si Fs190 rfl
                    refine wa_aload_n (i := 0) rfl rfl ?_
                    refine wa_Vv (d9 := d - 1) [] [] (sp_X8_next G (d := d - 1) (by omega) s193 ) (rfl) rfl rfl (zr (by omega)) mk_X8_next ly_30 ml_8_98 (Nat.le_of_ble_eq_true rfl) (fun s194 hs194 => ?_)
                    obtain ⟨fs194, -⟩ := hs194
                    have Fs194 : Fm [10, 30] [] σ s194 := Fm.tr Fs193 (Fm.wd fs194 rfl rfl)
                    refine wa_return (st := []) rfl rfl ?_
                    exact ⟨Fs194, trivial⟩
              · replace h169 := bI_t (b := false) (rfl) h169
                refine wa_iconst (v := 1) (by decide) ?_
                refine wa_goto o_X8_accept_98 (by decide) ?_
                refine wa_iadd ?_
                refine wa_top (fun v196 hv196 => ?_)
                have tv196 := i_addT hv196
                clear hv196
                refine wa_puti ck_8 fl_8_173 ly_30 (fun s197 hs197 => ?_)
                have Fs197 : Fm [10, 30] [] σ s197 := by rw [hs197]; exact Fm.si (Fm.rf [10, 30] [] σ) rfl
                refine wa_aload_n (i := 0) rfl rfl ?_
                refine wa_getr ck_8 fl_8_15 ly_30 rf_30_1 ?_
                refine wa_aload_n (i := 0) rfl rfl ?_
                refine wa_geti ck_8 fl_8_164 ly_30 ?_
                refine wa_rw (nxk_gi_si hs197 (by decide)) ?_
                refine wa_aload_n (i := 0) rfl rfl ?_
                refine wa_geti ck_8 fl_8_167 ly_30 ?_
                refine wa_rw (nxk_gi_si hs197 (by decide)) ?_
                refine wa_iload_n (i := 2) rfl rfl ?_
                refine wa_Vv (d9 := d - 1) [.int _, .int _, .int _] [] (sp_X2_setToken G (d := d - 1) (by omega) s197 _ _ _) (rfl) rfl rfl (zr (by omega)) mk_X2_setToken ly_7 ml_8_185 (Nat.le_of_ble_eq_true rfl) (fun s198 hs198 => ?_)
                obtain ⟨fs198, -⟩ := hs198
                have Fs198 : Fm [10, 30] [] σ s198 := Fm.tr Fs197 (Fm.ofSm fs198 rfl)
                refine wa_aload_n (i := 0) rfl rfl ?_
                refine wa_dup rfl ?_
                refine wa_geti ck_8 fl_8_167 ly_30 ?_
                refine wa_rw ((Sm.gi fs198 12 (Or.inr (by decide))).trans (nxk_gi_si hs197 (by decide))) ?_
                refine wa_iconst (v := 1) (by decide) ?_
                refine wa_iadd ?_
                refine wa_top (fun v200 hv200 => ?_)
                have tv200 := i_addT hv200
                clear hv200
                refine wa_puti ck_8 fl_8_167 ly_30 (fun s201 hs201 => ?_)
                have Fs201 : Fm [10, 30] [] σ s201 := by rw [hs201]; exact Fm.si Fs198 rfl
                refine wa_aload_n (i := 0) rfl rfl ?_
                refine wa_Vv (d9 := d - 1) [] [] (sp_X8_next G (d := d - 1) (by omega) s201 ) (rfl) rfl rfl (zr (by omega)) mk_X8_next ly_30 ml_8_98 (Nat.le_of_ble_eq_true rfl) (fun s202 hs202 => ?_)
                obtain ⟨fs202, -⟩ := hs202
                have Fs202 : Fm [10, 30] [] σ s202 := Fm.tr Fs201 (Fm.wd fs202 rfl rfl)
                refine wa_return (st := []) rfl rfl ?_
                exact ⟨Fs202, trivial⟩
            · replace h168 := bI_t (b := false) (rfl) h168
              refine wa_aload_n (i := 0) rfl rfl ?_
              refine wa_geti ck_8 fl_8_173 ly_30 ?_
              refine wa_bipush (v := 12) (by decide) ?_
              refine wa_icmp_lt o_X8_accept_69 (by decide) (fun h204 => ?_) (fun h204 => ?_)
              · refine wa_aload_n (i := 0) rfl rfl ?_
                refine wa_dup rfl ?_
                refine wa_geti ck_8 fl_8_173 ly_30 ?_
                refine wa_iload_n (i := 3) rfl rfl ?_
                refine wa_if_eq o_X8_accept_82 (by decide) (fun h205 => ?_) (fun h205 => ?_)
                · replace h205 := bI_f (b := false) (rfl) h205
                  refine wa_iload_n (i := 1) rfl rfl ?_
                  refine wa_iconst (v := 5) (by decide) ?_
                  refine wa_icmp_eq o_X8_accept_93 (by decide) (fun h206 => ?_) (fun h206 => ?_)
                  · refine wa_iconst (v := (-1)) (by decide) ?_
                    refine wa_goto o_X8_accept_98 (by decide) ?_
                    refine wa_iadd ?_
                    refine wa_top (fun v207 hv207 => ?_)
                    have tv207 := i_addT hv207
                    clear hv207
                    refine wa_puti ck_8 fl_8_173 ly_30 (fun s208 hs208 => ?_)
                    have Fs208 : Fm [10, 30] [] σ s208 := by rw [hs208]; exact Fm.si (Fm.rf [10, 30] [] σ) rfl
                    refine wa_aload_n (i := 0) rfl rfl ?_
                    refine wa_getr ck_8 fl_8_15 ly_30 rf_30_1 ?_
                    refine wa_aload_n (i := 0) rfl rfl ?_
                    refine wa_geti ck_8 fl_8_164 ly_30 ?_
                    refine wa_rw (nxk_gi_si hs208 (by decide)) ?_
                    refine wa_aload_n (i := 0) rfl rfl ?_
                    refine wa_geti ck_8 fl_8_167 ly_30 ?_
                    refine wa_rw (nxk_gi_si hs208 (by decide)) ?_
                    refine wa_iload_n (i := 2) rfl rfl ?_
                    refine wa_Vv (d9 := d - 1) [.int _, .int _, .int _] [] (sp_X2_setToken G (d := d - 1) (by omega) s208 _ _ _) (rfl) rfl rfl (zr (by omega)) mk_X2_setToken ly_7 ml_8_185 (Nat.le_of_ble_eq_true rfl) (fun s209 hs209 => ?_)
                    obtain ⟨fs209, -⟩ := hs209
                    have Fs209 : Fm [10, 30] [] σ s209 := Fm.tr Fs208 (Fm.ofSm fs209 rfl)
                    refine wa_aload_n (i := 0) rfl rfl ?_
                    refine wa_dup rfl ?_
                    refine wa_geti ck_8 fl_8_167 ly_30 ?_
                    refine wa_rw ((Sm.gi fs209 12 (Or.inr (by decide))).trans (nxk_gi_si hs208 (by decide))) ?_
                    refine wa_iconst (v := 1) (by decide) ?_
                    refine wa_iadd ?_
                    refine wa_top (fun v211 hv211 => ?_)
                    have tv211 := i_addT hv211
                    clear hv211
                    refine wa_puti ck_8 fl_8_167 ly_30 (fun s212 hs212 => ?_)
                    have Fs212 : Fm [10, 30] [] σ s212 := by rw [hs212]; exact Fm.si Fs209 rfl
                    refine wa_aload_n (i := 0) rfl rfl ?_
                    refine wa_Vv (d9 := d - 1) [] [] (sp_X8_next G (d := d - 1) (by omega) s212 ) (rfl) rfl rfl (zr (by omega)) mk_X8_next ly_30 ml_8_98 (Nat.le_of_ble_eq_true rfl) (fun s213 hs213 => ?_)
                    obtain ⟨fs213, -⟩ := hs213
                    have Fs213 : Fm [10, 30] [] σ s213 := Fm.tr Fs212 (Fm.wd fs213 rfl rfl)
                    refine wa_return (st := []) rfl rfl ?_
                    exact ⟨Fs213, trivial⟩
                  · refine wa_iload_n (i := 1) rfl rfl ?_
                    refine wa_bipush (v := 7) (by decide) ?_
                    refine wa_icmp_ne o_X8_accept_97 (by decide) (fun h215 => ?_) (fun h215 => ?_)
                    · refine wa_iconst (v := 0) (by decide) ?_
                      refine wa_iadd ?_
                      refine wa_top (fun v216 hv216 => ?_)
                      have tv216 := i_addT hv216
                      clear hv216
                      refine wa_puti ck_8 fl_8_173 ly_30 (fun s217 hs217 => ?_)
                      have Fs217 : Fm [10, 30] [] σ s217 := by rw [hs217]; exact Fm.si (Fm.rf [10, 30] [] σ) rfl
                      refine wa_aload_n (i := 0) rfl rfl ?_
                      refine wa_getr ck_8 fl_8_15 ly_30 rf_30_1 ?_
                      refine wa_aload_n (i := 0) rfl rfl ?_
                      refine wa_geti ck_8 fl_8_164 ly_30 ?_
                      refine wa_rw (nxk_gi_si hs217 (by decide)) ?_
                      refine wa_aload_n (i := 0) rfl rfl ?_
                      refine wa_geti ck_8 fl_8_167 ly_30 ?_
                      refine wa_rw (nxk_gi_si hs217 (by decide)) ?_
                      refine wa_iload_n (i := 2) rfl rfl ?_
                      refine wa_Vv (d9 := d - 1) [.int _, .int _, .int _] [] (sp_X2_setToken G (d := d - 1) (by omega) s217 _ _ _) (rfl) rfl rfl (zr (by omega)) mk_X2_setToken ly_7 ml_8_185 (Nat.le_of_ble_eq_true rfl) (fun s218 hs218 => ?_)
                      obtain ⟨fs218, -⟩ := hs218
                      have Fs218 : Fm [10, 30] [] σ s218 := Fm.tr Fs217 (Fm.ofSm fs218 rfl)
                      refine wa_aload_n (i := 0) rfl rfl ?_
                      refine wa_dup rfl ?_
                      refine wa_geti ck_8 fl_8_167 ly_30 ?_
                      refine wa_rw ((Sm.gi fs218 12 (Or.inr (by decide))).trans (nxk_gi_si hs217 (by decide))) ?_
                      refine wa_iconst (v := 1) (by decide) ?_
                      refine wa_iadd ?_
                      refine wa_top (fun v220 hv220 => ?_)
                      have tv220 := i_addT hv220
                      clear hv220
                      refine wa_puti ck_8 fl_8_167 ly_30 (fun s221 hs221 => ?_)
                      have Fs221 : Fm [10, 30] [] σ s221 := by rw [hs221]; exact Fm.si Fs218 rfl
                      refine wa_aload_n (i := 0) rfl rfl ?_
                      refine wa_Vv (d9 := d - 1) [] [] (sp_X8_next G (d := d - 1) (by omega) s221 ) (rfl) rfl rfl (zr (by omega)) mk_X8_next ly_30 ml_8_98 (Nat.le_of_ble_eq_true rfl) (fun s222 hs222 => ?_)
                      obtain ⟨fs222, -⟩ := hs222
                      have Fs222 : Fm [10, 30] [] σ s222 := Fm.tr Fs221 (Fm.wd fs222 rfl rfl)
                      refine wa_return (st := []) rfl rfl ?_
                      exact ⟨Fs222, trivial⟩
                    · refine wa_iconst (v := (-1)) (by decide) ?_
                      refine wa_goto o_X8_accept_98 (by decide) ?_
                      refine wa_iadd ?_
                      refine wa_top (fun v224 hv224 => ?_)
                      have tv224 := i_addT hv224
                      clear hv224
                      refine wa_puti ck_8 fl_8_173 ly_30 (fun s225 hs225 => ?_)
                      have Fs225 : Fm [10, 30] [] σ s225 := by rw [hs225]; exact Fm.si (Fm.rf [10, 30] [] σ) rfl
                      refine wa_aload_n (i := 0) rfl rfl ?_
                      refine wa_getr ck_8 fl_8_15 ly_30 rf_30_1 ?_
                      refine wa_aload_n (i := 0) rfl rfl ?_
                      refine wa_geti ck_8 fl_8_164 ly_30 ?_
                      refine wa_rw (nxk_gi_si hs225 (by decide)) ?_
                      refine wa_aload_n (i := 0) rfl rfl ?_
                      refine wa_geti ck_8 fl_8_167 ly_30 ?_
                      refine wa_rw (nxk_gi_si hs225 (by decide)) ?_
                      refine wa_iload_n (i := 2) rfl rfl ?_
                      refine wa_Vv (d9 := d - 1) [.int _, .int _, .int _] [] (sp_X2_setToken G (d := d - 1) (by omega) s225 _ _ _) (rfl) rfl rfl (zr (by omega)) mk_X2_setToken ly_7 ml_8_185 (Nat.le_of_ble_eq_true rfl) (fun s226 hs226 => ?_)
                      obtain ⟨fs226, -⟩ := hs226
                      have Fs226 : Fm [10, 30] [] σ s226 := Fm.tr Fs225 (Fm.ofSm fs226 rfl)
                      refine wa_aload_n (i := 0) rfl rfl ?_
                      refine wa_dup rfl ?_
                      refine wa_geti ck_8 fl_8_167 ly_30 ?_
                      refine wa_rw ((Sm.gi fs226 12 (Or.inr (by decide))).trans (nxk_gi_si hs225 (by decide))) ?_
                      refine wa_iconst (v := 1) (by decide) ?_
                      refine wa_iadd ?_
                      refine wa_top (fun v228 hv228 => ?_)
                      have tv228 := i_addT hv228
                      clear hv228
                      refine wa_puti ck_8 fl_8_167 ly_30 (fun s229 hs229 => ?_)
                      have Fs229 : Fm [10, 30] [] σ s229 := by rw [hs229]; exact Fm.si Fs226 rfl
                      refine wa_aload_n (i := 0) rfl rfl ?_
                      refine wa_Vv (d9 := d - 1) [] [] (sp_X8_next G (d := d - 1) (by omega) s229 ) (rfl) rfl rfl (zr (by omega)) mk_X8_next ly_30 ml_8_98 (Nat.le_of_ble_eq_true rfl) (fun s230 hs230 => ?_)
                      obtain ⟨fs230, -⟩ := hs230
                      have Fs230 : Fm [10, 30] [] σ s230 := Fm.tr Fs229 (Fm.wd fs230 rfl rfl)
                      refine wa_return (st := []) rfl rfl ?_
                      exact ⟨Fs230, trivial⟩
                · replace h205 := bI_t (b := false) (rfl) h205
                  refine wa_iconst (v := 1) (by decide) ?_
                  refine wa_goto o_X8_accept_98 (by decide) ?_
                  refine wa_iadd ?_
                  refine wa_top (fun v232 hv232 => ?_)
                  have tv232 := i_addT hv232
                  clear hv232
                  refine wa_puti ck_8 fl_8_173 ly_30 (fun s233 hs233 => ?_)
                  have Fs233 : Fm [10, 30] [] σ s233 := by rw [hs233]; exact Fm.si (Fm.rf [10, 30] [] σ) rfl
                  refine wa_aload_n (i := 0) rfl rfl ?_
                  refine wa_getr ck_8 fl_8_15 ly_30 rf_30_1 ?_
                  refine wa_aload_n (i := 0) rfl rfl ?_
                  refine wa_geti ck_8 fl_8_164 ly_30 ?_
                  refine wa_rw (nxk_gi_si hs233 (by decide)) ?_
                  refine wa_aload_n (i := 0) rfl rfl ?_
                  refine wa_geti ck_8 fl_8_167 ly_30 ?_
                  refine wa_rw (nxk_gi_si hs233 (by decide)) ?_
                  refine wa_iload_n (i := 2) rfl rfl ?_
                  refine wa_Vv (d9 := d - 1) [.int _, .int _, .int _] [] (sp_X2_setToken G (d := d - 1) (by omega) s233 _ _ _) (rfl) rfl rfl (zr (by omega)) mk_X2_setToken ly_7 ml_8_185 (Nat.le_of_ble_eq_true rfl) (fun s234 hs234 => ?_)
                  obtain ⟨fs234, -⟩ := hs234
                  have Fs234 : Fm [10, 30] [] σ s234 := Fm.tr Fs233 (Fm.ofSm fs234 rfl)
                  refine wa_aload_n (i := 0) rfl rfl ?_
                  refine wa_dup rfl ?_
                  refine wa_geti ck_8 fl_8_167 ly_30 ?_
                  refine wa_rw ((Sm.gi fs234 12 (Or.inr (by decide))).trans (nxk_gi_si hs233 (by decide))) ?_
                  refine wa_iconst (v := 1) (by decide) ?_
                  refine wa_iadd ?_
                  refine wa_top (fun v236 hv236 => ?_)
                  have tv236 := i_addT hv236
                  clear hv236
                  refine wa_puti ck_8 fl_8_167 ly_30 (fun s237 hs237 => ?_)
                  have Fs237 : Fm [10, 30] [] σ s237 := by rw [hs237]; exact Fm.si Fs234 rfl
                  refine wa_aload_n (i := 0) rfl rfl ?_
                  refine wa_Vv (d9 := d - 1) [] [] (sp_X8_next G (d := d - 1) (by omega) s237 ) (rfl) rfl rfl (zr (by omega)) mk_X8_next ly_30 ml_8_98 (Nat.le_of_ble_eq_true rfl) (fun s238 hs238 => ?_)
                  obtain ⟨fs238, -⟩ := hs238
                  have Fs238 : Fm [10, 30] [] σ s238 := Fm.tr Fs237 (Fm.wd fs238 rfl rfl)
                  refine wa_return (st := []) rfl rfl ?_
                  exact ⟨Fs238, trivial⟩
              · refine wa_aload_n (i := 0) rfl rfl ?_
                refine wa_iconst (v := 5) (by decide) ?_
                refine wa_Vv (d9 := d - 1) [.int _] [] (sp_X8_fail G (d := d - 1) (by omega) σ _) (rfl) rfl rfl (zr (by omega)) mk_X8_fail ly_30 ml_8_95 (Nat.le_of_ble_eq_true rfl) (fun s240 hs240 => ?_)
                obtain ⟨fs240, -⟩ := hs240
                have Fs240 : Fm [10, 30] [] σ s240 := Fm.tr (Fm.rf [10, 30] [] σ) (Fm.wd fs240 rfl rfl)
                refine wa_goto o_X8_accept_132 (by decide) ?_
                refine wa_return (st := []) rfl rfl ?_
                exact ⟨Fs240, trivial⟩
        · refine wa_aload_n (i := 0) rfl rfl ?_
          refine wa_iconst (v := 2) (by decide) ?_
          refine wa_Vv (d9 := d - 1) [.int _] [] (sp_X8_fail G (d := d - 1) (by omega) σ _) (rfl) rfl rfl (zr (by omega)) mk_X8_fail ly_30 ml_8_95 (Nat.le_of_ble_eq_true rfl) (fun s242 hs242 => ?_)
          obtain ⟨fs242, -⟩ := hs242
          have Fs242 : Fm [10, 30] [] σ s242 := Fm.tr (Fm.rf [10, 30] [] σ) (Fm.wd fs242 rfl rfl)
          refine wa_goto o_X8_accept_132 (by decide) ?_
          refine wa_return (st := []) rfl rfl ?_
          exact ⟨Fs242, trivial⟩
      · refine wa_iconst (v := 1) (by decide) ?_
        refine wa_goto o_X8_accept_22 (by decide) ?_
        refine wa_istore_nD (lv' := [(3, .int (bI true)), (0, .ref 30), (1, .int a0), (2, .int a1)]) (i := 3) rfl (by decide) rfl ?_
        refine wa_aload_n (i := 0) rfl rfl ?_
        refine wa_geti ck_8 fl_8_39 ly_30 ?_
        refine wa_iload_n (i := 1) rfl rfl ?_
        refine wa_icmp_eq o_X8_accept_39 (by decide) (fun h244 => ?_) (fun h244 => ?_)
        · refine wa_aload_n (i := 0) rfl rfl ?_
          refine wa_geti ck_8 fl_8_167 ly_30 ?_
          refine wa_bipush (v := 120) (by decide) ?_
          refine wa_icmp_ge o_X8_accept_61 (by decide) (fun h245 => ?_) (fun h245 => ?_)
          · refine wa_aload_n (i := 0) rfl rfl ?_
            refine wa_iconst (v := 5) (by decide) ?_
            refine wa_Vv (d9 := d - 1) [.int _] [] (sp_X8_fail G (d := d - 1) (by omega) σ _) (rfl) rfl rfl (zr (by omega)) mk_X8_fail ly_30 ml_8_95 (Nat.le_of_ble_eq_true rfl) (fun s246 hs246 => ?_)
            obtain ⟨fs246, -⟩ := hs246
            have Fs246 : Fm [10, 30] [] σ s246 := Fm.tr (Fm.rf [10, 30] [] σ) (Fm.wd fs246 rfl rfl)
            refine wa_goto o_X8_accept_132 (by decide) ?_
            refine wa_return (st := []) rfl rfl ?_
            exact ⟨Fs246, trivial⟩
          · have mh245 := nle_mx h245
            refine wa_iload_n (i := 3) rfl rfl ?_
            refine wa_if_eq o_X8_accept_69 (by decide) (fun h248 => ?_) (fun h248 => ?_)
            · replace h248 := bI_f (b := true) (rfl) h248
              refine wa_aload_n (i := 0) rfl rfl ?_
              refine wa_dup rfl ?_
              refine wa_geti ck_8 fl_8_173 ly_30 ?_
              refine wa_iload_n (i := 3) rfl rfl ?_
              refine wa_if_eq o_X8_accept_82 (by decide) (fun h249 => ?_) (fun h249 => ?_)
              · replace h249 := bI_f (b := true) (rfl) h249
                refine wa_iload_n (i := 1) rfl rfl ?_
                refine wa_iconst (v := 5) (by decide) ?_
                refine wa_icmp_eq o_X8_accept_93 (by decide) (fun h250 => ?_) (fun h250 => ?_)
                · refine wa_iconst (v := (-1)) (by decide) ?_
                  refine wa_goto o_X8_accept_98 (by decide) ?_
                  refine wa_iadd ?_
                  refine wa_top (fun v251 hv251 => ?_)
                  have tv251 := i_addT hv251
                  clear hv251
                  refine wa_puti ck_8 fl_8_173 ly_30 (fun s252 hs252 => ?_)
                  have Fs252 : Fm [10, 30] [] σ s252 := by rw [hs252]; exact Fm.si (Fm.rf [10, 30] [] σ) rfl
                  refine wa_aload_n (i := 0) rfl rfl ?_
                  refine wa_getr ck_8 fl_8_15 ly_30 rf_30_1 ?_
                  refine wa_aload_n (i := 0) rfl rfl ?_
                  refine wa_geti ck_8 fl_8_164 ly_30 ?_
                  refine wa_rw (nxk_gi_si hs252 (by decide)) ?_
                  refine wa_aload_n (i := 0) rfl rfl ?_
                  refine wa_geti ck_8 fl_8_167 ly_30 ?_
                  refine wa_rw (nxk_gi_si hs252 (by decide)) ?_
                  refine wa_iload_n (i := 2) rfl rfl ?_
                  refine wa_Vv (d9 := d - 1) [.int _, .int _, .int _] [] (sp_X2_setToken G (d := d - 1) (by omega) s252 _ _ _) (rfl) rfl rfl (zr (by omega)) mk_X2_setToken ly_7 ml_8_185 (Nat.le_of_ble_eq_true rfl) (fun s253 hs253 => ?_)
                  obtain ⟨fs253, -⟩ := hs253
                  have Fs253 : Fm [10, 30] [] σ s253 := Fm.tr Fs252 (Fm.ofSm fs253 rfl)
                  refine wa_aload_n (i := 0) rfl rfl ?_
                  refine wa_dup rfl ?_
                  refine wa_geti ck_8 fl_8_167 ly_30 ?_
                  refine wa_rw ((Sm.gi fs253 12 (Or.inr (by decide))).trans (nxk_gi_si hs252 (by decide))) ?_
                  refine wa_iconst (v := 1) (by decide) ?_
                  refine wa_iadd ?_
                  refine wa_top (fun v255 hv255 => ?_)
                  have tv255 := i_addT hv255
                  clear hv255
                  refine wa_puti ck_8 fl_8_167 ly_30 (fun s256 hs256 => ?_)
                  have Fs256 : Fm [10, 30] [] σ s256 := by rw [hs256]; exact Fm.si Fs253 rfl
                  refine wa_aload_n (i := 0) rfl rfl ?_
                  refine wa_Vv (d9 := d - 1) [] [] (sp_X8_next G (d := d - 1) (by omega) s256 ) (rfl) rfl rfl (zr (by omega)) mk_X8_next ly_30 ml_8_98 (Nat.le_of_ble_eq_true rfl) (fun s257 hs257 => ?_)
                  obtain ⟨fs257, -⟩ := hs257
                  have Fs257 : Fm [10, 30] [] σ s257 := Fm.tr Fs256 (Fm.wd fs257 rfl rfl)
                  refine wa_return (st := []) rfl rfl ?_
                  exact ⟨Fs257, trivial⟩
                · refine wa_iload_n (i := 1) rfl rfl ?_
                  refine wa_bipush (v := 7) (by decide) ?_
                  refine wa_icmp_ne o_X8_accept_97 (by decide) (fun h259 => ?_) (fun h259 => ?_)
                  · refine wa_iconst (v := 0) (by decide) ?_
                    refine wa_iadd ?_
                    refine wa_top (fun v260 hv260 => ?_)
                    have tv260 := i_addT hv260
                    clear hv260
                    refine wa_puti ck_8 fl_8_173 ly_30 (fun s261 hs261 => ?_)
                    have Fs261 : Fm [10, 30] [] σ s261 := by rw [hs261]; exact Fm.si (Fm.rf [10, 30] [] σ) rfl
                    refine wa_aload_n (i := 0) rfl rfl ?_
                    refine wa_getr ck_8 fl_8_15 ly_30 rf_30_1 ?_
                    refine wa_aload_n (i := 0) rfl rfl ?_
                    refine wa_geti ck_8 fl_8_164 ly_30 ?_
                    refine wa_rw (nxk_gi_si hs261 (by decide)) ?_
                    refine wa_aload_n (i := 0) rfl rfl ?_
                    refine wa_geti ck_8 fl_8_167 ly_30 ?_
                    refine wa_rw (nxk_gi_si hs261 (by decide)) ?_
                    refine wa_iload_n (i := 2) rfl rfl ?_
                    refine wa_Vv (d9 := d - 1) [.int _, .int _, .int _] [] (sp_X2_setToken G (d := d - 1) (by omega) s261 _ _ _) (rfl) rfl rfl (zr (by omega)) mk_X2_setToken ly_7 ml_8_185 (Nat.le_of_ble_eq_true rfl) (fun s262 hs262 => ?_)
                    obtain ⟨fs262, -⟩ := hs262
                    have Fs262 : Fm [10, 30] [] σ s262 := Fm.tr Fs261 (Fm.ofSm fs262 rfl)
                    refine wa_aload_n (i := 0) rfl rfl ?_
                    refine wa_dup rfl ?_
                    refine wa_geti ck_8 fl_8_167 ly_30 ?_
                    refine wa_rw ((Sm.gi fs262 12 (Or.inr (by decide))).trans (nxk_gi_si hs261 (by decide))) ?_
                    refine wa_iconst (v := 1) (by decide) ?_
                    refine wa_iadd ?_
                    refine wa_top (fun v264 hv264 => ?_)
                    have tv264 := i_addT hv264
                    clear hv264
                    refine wa_puti ck_8 fl_8_167 ly_30 (fun s265 hs265 => ?_)
                    have Fs265 : Fm [10, 30] [] σ s265 := by rw [hs265]; exact Fm.si Fs262 rfl
                    refine wa_aload_n (i := 0) rfl rfl ?_
                    refine wa_Vv (d9 := d - 1) [] [] (sp_X8_next G (d := d - 1) (by omega) s265 ) (rfl) rfl rfl (zr (by omega)) mk_X8_next ly_30 ml_8_98 (Nat.le_of_ble_eq_true rfl) (fun s266 hs266 => ?_)
                    obtain ⟨fs266, -⟩ := hs266
                    have Fs266 : Fm [10, 30] [] σ s266 := Fm.tr Fs265 (Fm.wd fs266 rfl rfl)
                    refine wa_return (st := []) rfl rfl ?_
                    exact ⟨Fs266, trivial⟩
                  · refine wa_iconst (v := (-1)) (by decide) ?_
                    refine wa_goto o_X8_accept_98 (by decide) ?_
                    refine wa_iadd ?_
                    refine wa_top (fun v268 hv268 => ?_)
                    have tv268 := i_addT hv268
                    clear hv268
                    refine wa_puti ck_8 fl_8_173 ly_30 (fun s269 hs269 => ?_)
                    have Fs269 : Fm [10, 30] [] σ s269 := by rw [hs269]; exact Fm.si (Fm.rf [10, 30] [] σ) rfl
                    refine wa_aload_n (i := 0) rfl rfl ?_
                    refine wa_getr ck_8 fl_8_15 ly_30 rf_30_1 ?_
                    refine wa_aload_n (i := 0) rfl rfl ?_
                    refine wa_geti ck_8 fl_8_164 ly_30 ?_
                    refine wa_rw (nxk_gi_si hs269 (by decide)) ?_
                    refine wa_aload_n (i := 0) rfl rfl ?_
                    refine wa_geti ck_8 fl_8_167 ly_30 ?_
                    refine wa_rw (nxk_gi_si hs269 (by decide)) ?_
                    refine wa_iload_n (i := 2) rfl rfl ?_
                    refine wa_Vv (d9 := d - 1) [.int _, .int _, .int _] [] (sp_X2_setToken G (d := d - 1) (by omega) s269 _ _ _) (rfl) rfl rfl (zr (by omega)) mk_X2_setToken ly_7 ml_8_185 (Nat.le_of_ble_eq_true rfl) (fun s270 hs270 => ?_)
                    obtain ⟨fs270, -⟩ := hs270
                    have Fs270 : Fm [10, 30] [] σ s270 := Fm.tr Fs269 (Fm.ofSm fs270 rfl)
                    refine wa_aload_n (i := 0) rfl rfl ?_
                    refine wa_dup rfl ?_
                    refine wa_geti ck_8 fl_8_167 ly_30 ?_
                    refine wa_rw ((Sm.gi fs270 12 (Or.inr (by decide))).trans (nxk_gi_si hs269 (by decide))) ?_
                    refine wa_iconst (v := 1) (by decide) ?_
                    refine wa_iadd ?_
                    refine wa_top (fun v272 hv272 => ?_)
                    have tv272 := i_addT hv272
                    clear hv272
                    refine wa_puti ck_8 fl_8_167 ly_30 (fun s273 hs273 => ?_)
                    have Fs273 : Fm [10, 30] [] σ s273 := by rw [hs273]; exact Fm.si Fs270 rfl
                    refine wa_aload_n (i := 0) rfl rfl ?_
                    refine wa_Vv (d9 := d - 1) [] [] (sp_X8_next G (d := d - 1) (by omega) s273 ) (rfl) rfl rfl (zr (by omega)) mk_X8_next ly_30 ml_8_98 (Nat.le_of_ble_eq_true rfl) (fun s274 hs274 => ?_)
                    obtain ⟨fs274, -⟩ := hs274
                    have Fs274 : Fm [10, 30] [] σ s274 := Fm.tr Fs273 (Fm.wd fs274 rfl rfl)
                    refine wa_return (st := []) rfl rfl ?_
                    exact ⟨Fs274, trivial⟩
              · replace h249 := bI_t (b := true) (rfl) h249
                refine wa_iconst (v := 1) (by decide) ?_
                refine wa_goto o_X8_accept_98 (by decide) ?_
                refine wa_iadd ?_
                refine wa_top (fun v276 hv276 => ?_)
                have tv276 := i_addT hv276
                clear hv276
                refine wa_puti ck_8 fl_8_173 ly_30 (fun s277 hs277 => ?_)
                have Fs277 : Fm [10, 30] [] σ s277 := by rw [hs277]; exact Fm.si (Fm.rf [10, 30] [] σ) rfl
                refine wa_aload_n (i := 0) rfl rfl ?_
                refine wa_getr ck_8 fl_8_15 ly_30 rf_30_1 ?_
                refine wa_aload_n (i := 0) rfl rfl ?_
                refine wa_geti ck_8 fl_8_164 ly_30 ?_
                refine wa_rw (nxk_gi_si hs277 (by decide)) ?_
                refine wa_aload_n (i := 0) rfl rfl ?_
                refine wa_geti ck_8 fl_8_167 ly_30 ?_
                refine wa_rw (nxk_gi_si hs277 (by decide)) ?_
                refine wa_iload_n (i := 2) rfl rfl ?_
                refine wa_Vv (d9 := d - 1) [.int _, .int _, .int _] [] (sp_X2_setToken G (d := d - 1) (by omega) s277 _ _ _) (rfl) rfl rfl (zr (by omega)) mk_X2_setToken ly_7 ml_8_185 (Nat.le_of_ble_eq_true rfl) (fun s278 hs278 => ?_)
                obtain ⟨fs278, -⟩ := hs278
                have Fs278 : Fm [10, 30] [] σ s278 := Fm.tr Fs277 (Fm.ofSm fs278 rfl)
                refine wa_aload_n (i := 0) rfl rfl ?_
                refine wa_dup rfl ?_
                refine wa_geti ck_8 fl_8_167 ly_30 ?_
                refine wa_rw ((Sm.gi fs278 12 (Or.inr (by decide))).trans (nxk_gi_si hs277 (by decide))) ?_
                refine wa_iconst (v := 1) (by decide) ?_
                refine wa_iadd ?_
                refine wa_top (fun v280 hv280 => ?_)
                have tv280 := i_addT hv280
                clear hv280
                refine wa_puti ck_8 fl_8_167 ly_30 (fun s281 hs281 => ?_)
                have Fs281 : Fm [10, 30] [] σ s281 := by rw [hs281]; exact Fm.si Fs278 rfl
                refine wa_aload_n (i := 0) rfl rfl ?_
                refine wa_Vv (d9 := d - 1) [] [] (sp_X8_next G (d := d - 1) (by omega) s281 ) (rfl) rfl rfl (zr (by omega)) mk_X8_next ly_30 ml_8_98 (Nat.le_of_ble_eq_true rfl) (fun s282 hs282 => ?_)
                obtain ⟨fs282, -⟩ := hs282
                have Fs282 : Fm [10, 30] [] σ s282 := Fm.tr Fs281 (Fm.wd fs282 rfl rfl)
                refine wa_return (st := []) rfl rfl ?_
                exact ⟨Fs282, trivial⟩
            · replace h248 := bI_t (b := true) (rfl) h248
              refine wa_aload_n (i := 0) rfl rfl ?_
              refine wa_geti ck_8 fl_8_173 ly_30 ?_
              refine wa_bipush (v := 12) (by decide) ?_
              refine wa_icmp_lt o_X8_accept_69 (by decide) (fun h284 => ?_) (fun h284 => ?_)
              · refine wa_aload_n (i := 0) rfl rfl ?_
                refine wa_dup rfl ?_
                refine wa_geti ck_8 fl_8_173 ly_30 ?_
                refine wa_iload_n (i := 3) rfl rfl ?_
                refine wa_if_eq o_X8_accept_82 (by decide) (fun h285 => ?_) (fun h285 => ?_)
                · replace h285 := bI_f (b := true) (rfl) h285
                  refine wa_iload_n (i := 1) rfl rfl ?_
                  refine wa_iconst (v := 5) (by decide) ?_
                  refine wa_icmp_eq o_X8_accept_93 (by decide) (fun h286 => ?_) (fun h286 => ?_)
                  · refine wa_iconst (v := (-1)) (by decide) ?_
                    refine wa_goto o_X8_accept_98 (by decide) ?_
                    refine wa_iadd ?_
                    refine wa_top (fun v287 hv287 => ?_)
                    have tv287 := i_addT hv287
                    clear hv287
                    refine wa_puti ck_8 fl_8_173 ly_30 (fun s288 hs288 => ?_)
                    have Fs288 : Fm [10, 30] [] σ s288 := by rw [hs288]; exact Fm.si (Fm.rf [10, 30] [] σ) rfl
                    refine wa_aload_n (i := 0) rfl rfl ?_
                    refine wa_getr ck_8 fl_8_15 ly_30 rf_30_1 ?_
                    refine wa_aload_n (i := 0) rfl rfl ?_
                    refine wa_geti ck_8 fl_8_164 ly_30 ?_
                    refine wa_rw (nxk_gi_si hs288 (by decide)) ?_
                    refine wa_aload_n (i := 0) rfl rfl ?_
                    refine wa_geti ck_8 fl_8_167 ly_30 ?_
                    refine wa_rw (nxk_gi_si hs288 (by decide)) ?_
                    refine wa_iload_n (i := 2) rfl rfl ?_
                    refine wa_Vv (d9 := d - 1) [.int _, .int _, .int _] [] (sp_X2_setToken G (d := d - 1) (by omega) s288 _ _ _) (rfl) rfl rfl (zr (by omega)) mk_X2_setToken ly_7 ml_8_185 (Nat.le_of_ble_eq_true rfl) (fun s289 hs289 => ?_)
                    obtain ⟨fs289, -⟩ := hs289
                    have Fs289 : Fm [10, 30] [] σ s289 := Fm.tr Fs288 (Fm.ofSm fs289 rfl)
                    refine wa_aload_n (i := 0) rfl rfl ?_
                    refine wa_dup rfl ?_
                    refine wa_geti ck_8 fl_8_167 ly_30 ?_
                    refine wa_rw ((Sm.gi fs289 12 (Or.inr (by decide))).trans (nxk_gi_si hs288 (by decide))) ?_
                    refine wa_iconst (v := 1) (by decide) ?_
                    refine wa_iadd ?_
                    refine wa_top (fun v291 hv291 => ?_)
                    have tv291 := i_addT hv291
                    clear hv291
                    refine wa_puti ck_8 fl_8_167 ly_30 (fun s292 hs292 => ?_)
                    have Fs292 : Fm [10, 30] [] σ s292 := by rw [hs292]; exact Fm.si Fs289 rfl
                    refine wa_aload_n (i := 0) rfl rfl ?_
                    refine wa_Vv (d9 := d - 1) [] [] (sp_X8_next G (d := d - 1) (by omega) s292 ) (rfl) rfl rfl (zr (by omega)) mk_X8_next ly_30 ml_8_98 (Nat.le_of_ble_eq_true rfl) (fun s293 hs293 => ?_)
                    obtain ⟨fs293, -⟩ := hs293
                    have Fs293 : Fm [10, 30] [] σ s293 := Fm.tr Fs292 (Fm.wd fs293 rfl rfl)
                    refine wa_return (st := []) rfl rfl ?_
                    exact ⟨Fs293, trivial⟩
                  · refine wa_iload_n (i := 1) rfl rfl ?_
                    refine wa_bipush (v := 7) (by decide) ?_
                    refine wa_icmp_ne o_X8_accept_97 (by decide) (fun h295 => ?_) (fun h295 => ?_)
                    · refine wa_iconst (v := 0) (by decide) ?_
                      refine wa_iadd ?_
                      refine wa_top (fun v296 hv296 => ?_)
                      have tv296 := i_addT hv296
                      clear hv296
                      refine wa_puti ck_8 fl_8_173 ly_30 (fun s297 hs297 => ?_)
                      have Fs297 : Fm [10, 30] [] σ s297 := by rw [hs297]; exact Fm.si (Fm.rf [10, 30] [] σ) rfl
                      refine wa_aload_n (i := 0) rfl rfl ?_
                      refine wa_getr ck_8 fl_8_15 ly_30 rf_30_1 ?_
                      refine wa_aload_n (i := 0) rfl rfl ?_
                      refine wa_geti ck_8 fl_8_164 ly_30 ?_
                      refine wa_rw (nxk_gi_si hs297 (by decide)) ?_
                      refine wa_aload_n (i := 0) rfl rfl ?_
                      refine wa_geti ck_8 fl_8_167 ly_30 ?_
                      refine wa_rw (nxk_gi_si hs297 (by decide)) ?_
                      refine wa_iload_n (i := 2) rfl rfl ?_
                      refine wa_Vv (d9 := d - 1) [.int _, .int _, .int _] [] (sp_X2_setToken G (d := d - 1) (by omega) s297 _ _ _) (rfl) rfl rfl (zr (by omega)) mk_X2_setToken ly_7 ml_8_185 (Nat.le_of_ble_eq_true rfl) (fun s298 hs298 => ?_)
                      obtain ⟨fs298, -⟩ := hs298
                      have Fs298 : Fm [10, 30] [] σ s298 := Fm.tr Fs297 (Fm.ofSm fs298 rfl)
                      refine wa_aload_n (i := 0) rfl rfl ?_
                      refine wa_dup rfl ?_
                      refine wa_geti ck_8 fl_8_167 ly_30 ?_
                      refine wa_rw ((Sm.gi fs298 12 (Or.inr (by decide))).trans (nxk_gi_si hs297 (by decide))) ?_
                      refine wa_iconst (v := 1) (by decide) ?_
                      refine wa_iadd ?_
                      refine wa_top (fun v300 hv300 => ?_)
                      have tv300 := i_addT hv300
                      clear hv300
                      refine wa_puti ck_8 fl_8_167 ly_30 (fun s301 hs301 => ?_)
                      have Fs301 : Fm [10, 30] [] σ s301 := by rw [hs301]; exact Fm.si Fs298 rfl
                      refine wa_aload_n (i := 0) rfl rfl ?_
                      refine wa_Vv (d9 := d - 1) [] [] (sp_X8_next G (d := d - 1) (by omega) s301 ) (rfl) rfl rfl (zr (by omega)) mk_X8_next ly_30 ml_8_98 (Nat.le_of_ble_eq_true rfl) (fun s302 hs302 => ?_)
                      obtain ⟨fs302, -⟩ := hs302
                      have Fs302 : Fm [10, 30] [] σ s302 := Fm.tr Fs301 (Fm.wd fs302 rfl rfl)
                      refine wa_return (st := []) rfl rfl ?_
                      exact ⟨Fs302, trivial⟩
                    · refine wa_iconst (v := (-1)) (by decide) ?_
                      refine wa_goto o_X8_accept_98 (by decide) ?_
                      refine wa_iadd ?_
                      refine wa_top (fun v304 hv304 => ?_)
                      have tv304 := i_addT hv304
                      clear hv304
                      refine wa_puti ck_8 fl_8_173 ly_30 (fun s305 hs305 => ?_)
                      have Fs305 : Fm [10, 30] [] σ s305 := by rw [hs305]; exact Fm.si (Fm.rf [10, 30] [] σ) rfl
                      refine wa_aload_n (i := 0) rfl rfl ?_
                      refine wa_getr ck_8 fl_8_15 ly_30 rf_30_1 ?_
                      refine wa_aload_n (i := 0) rfl rfl ?_
                      refine wa_geti ck_8 fl_8_164 ly_30 ?_
                      refine wa_rw (nxk_gi_si hs305 (by decide)) ?_
                      refine wa_aload_n (i := 0) rfl rfl ?_
                      refine wa_geti ck_8 fl_8_167 ly_30 ?_
                      refine wa_rw (nxk_gi_si hs305 (by decide)) ?_
                      refine wa_iload_n (i := 2) rfl rfl ?_
                      refine wa_Vv (d9 := d - 1) [.int _, .int _, .int _] [] (sp_X2_setToken G (d := d - 1) (by omega) s305 _ _ _) (rfl) rfl rfl (zr (by omega)) mk_X2_setToken ly_7 ml_8_185 (Nat.le_of_ble_eq_true rfl) (fun s306 hs306 => ?_)
                      obtain ⟨fs306, -⟩ := hs306
                      have Fs306 : Fm [10, 30] [] σ s306 := Fm.tr Fs305 (Fm.ofSm fs306 rfl)
                      refine wa_aload_n (i := 0) rfl rfl ?_
                      refine wa_dup rfl ?_
                      refine wa_geti ck_8 fl_8_167 ly_30 ?_
                      refine wa_rw ((Sm.gi fs306 12 (Or.inr (by decide))).trans (nxk_gi_si hs305 (by decide))) ?_
                      refine wa_iconst (v := 1) (by decide) ?_
                      refine wa_iadd ?_
                      refine wa_top (fun v308 hv308 => ?_)
                      have tv308 := i_addT hv308
                      clear hv308
                      refine wa_puti ck_8 fl_8_167 ly_30 (fun s309 hs309 => ?_)
                      have Fs309 : Fm [10, 30] [] σ s309 := by rw [hs309]; exact Fm.si Fs306 rfl
                      refine wa_aload_n (i := 0) rfl rfl ?_
                      refine wa_Vv (d9 := d - 1) [] [] (sp_X8_next G (d := d - 1) (by omega) s309 ) (rfl) rfl rfl (zr (by omega)) mk_X8_next ly_30 ml_8_98 (Nat.le_of_ble_eq_true rfl) (fun s310 hs310 => ?_)
                      obtain ⟨fs310, -⟩ := hs310
                      have Fs310 : Fm [10, 30] [] σ s310 := Fm.tr Fs309 (Fm.wd fs310 rfl rfl)
                      refine wa_return (st := []) rfl rfl ?_
                      exact ⟨Fs310, trivial⟩
                · replace h285 := bI_t (b := true) (rfl) h285
                  refine wa_iconst (v := 1) (by decide) ?_
                  refine wa_goto o_X8_accept_98 (by decide) ?_
                  refine wa_iadd ?_
                  refine wa_top (fun v312 hv312 => ?_)
                  have tv312 := i_addT hv312
                  clear hv312
                  refine wa_puti ck_8 fl_8_173 ly_30 (fun s313 hs313 => ?_)
                  have Fs313 : Fm [10, 30] [] σ s313 := by rw [hs313]; exact Fm.si (Fm.rf [10, 30] [] σ) rfl
                  refine wa_aload_n (i := 0) rfl rfl ?_
                  refine wa_getr ck_8 fl_8_15 ly_30 rf_30_1 ?_
                  refine wa_aload_n (i := 0) rfl rfl ?_
                  refine wa_geti ck_8 fl_8_164 ly_30 ?_
                  refine wa_rw (nxk_gi_si hs313 (by decide)) ?_
                  refine wa_aload_n (i := 0) rfl rfl ?_
                  refine wa_geti ck_8 fl_8_167 ly_30 ?_
                  refine wa_rw (nxk_gi_si hs313 (by decide)) ?_
                  refine wa_iload_n (i := 2) rfl rfl ?_
                  refine wa_Vv (d9 := d - 1) [.int _, .int _, .int _] [] (sp_X2_setToken G (d := d - 1) (by omega) s313 _ _ _) (rfl) rfl rfl (zr (by omega)) mk_X2_setToken ly_7 ml_8_185 (Nat.le_of_ble_eq_true rfl) (fun s314 hs314 => ?_)
                  obtain ⟨fs314, -⟩ := hs314
                  have Fs314 : Fm [10, 30] [] σ s314 := Fm.tr Fs313 (Fm.ofSm fs314 rfl)
                  refine wa_aload_n (i := 0) rfl rfl ?_
                  refine wa_dup rfl ?_
                  refine wa_geti ck_8 fl_8_167 ly_30 ?_
                  refine wa_rw ((Sm.gi fs314 12 (Or.inr (by decide))).trans (nxk_gi_si hs313 (by decide))) ?_
                  refine wa_iconst (v := 1) (by decide) ?_
                  refine wa_iadd ?_
                  refine wa_top (fun v316 hv316 => ?_)
                  have tv316 := i_addT hv316
                  clear hv316
                  refine wa_puti ck_8 fl_8_167 ly_30 (fun s317 hs317 => ?_)
                  have Fs317 : Fm [10, 30] [] σ s317 := by rw [hs317]; exact Fm.si Fs314 rfl
                  refine wa_aload_n (i := 0) rfl rfl ?_
                  refine wa_Vv (d9 := d - 1) [] [] (sp_X8_next G (d := d - 1) (by omega) s317 ) (rfl) rfl rfl (zr (by omega)) mk_X8_next ly_30 ml_8_98 (Nat.le_of_ble_eq_true rfl) (fun s318 hs318 => ?_)
                  obtain ⟨fs318, -⟩ := hs318
                  have Fs318 : Fm [10, 30] [] σ s318 := Fm.tr Fs317 (Fm.wd fs318 rfl rfl)
                  refine wa_return (st := []) rfl rfl ?_
                  exact ⟨Fs318, trivial⟩
              · refine wa_aload_n (i := 0) rfl rfl ?_
                refine wa_iconst (v := 5) (by decide) ?_
                refine wa_Vv (d9 := d - 1) [.int _] [] (sp_X8_fail G (d := d - 1) (by omega) σ _) (rfl) rfl rfl (zr (by omega)) mk_X8_fail ly_30 ml_8_95 (Nat.le_of_ble_eq_true rfl) (fun s320 hs320 => ?_)
                obtain ⟨fs320, -⟩ := hs320
                have Fs320 : Fm [10, 30] [] σ s320 := Fm.tr (Fm.rf [10, 30] [] σ) (Fm.wd fs320 rfl rfl)
                refine wa_goto o_X8_accept_132 (by decide) ?_
                refine wa_return (st := []) rfl rfl ?_
                exact ⟨Fs320, trivial⟩
        · refine wa_aload_n (i := 0) rfl rfl ?_
          refine wa_iconst (v := 2) (by decide) ?_
          refine wa_Vv (d9 := d - 1) [.int _] [] (sp_X8_fail G (d := d - 1) (by omega) σ _) (rfl) rfl rfl (zr (by omega)) mk_X8_fail ly_30 ml_8_95 (Nat.le_of_ble_eq_true rfl) (fun s322 hs322 => ?_)
          obtain ⟨fs322, -⟩ := hs322
          have Fs322 : Fm [10, 30] [] σ s322 := Fm.tr (Fm.rf [10, 30] [] σ) (Fm.wd fs322 rfl rfl)
          refine wa_goto o_X8_accept_132 (by decide) ?_
          refine wa_return (st := []) rfl rfl ?_
          exact ⟨Fs322, trivial⟩
set_option maxHeartbeats 4000000 in
theorem sp_X8_step (G : kG9) {d : Nat} (hd : 1 ≤ d) (σ : St) (a0 : Int32) : Ct G M_X8_step d [.ref 30, .int a0] σ (fun r σ' => Fm [11, 30] [] σ σ' ∧ True) := by
  refine wa_start (by decide) rfl (Nat.le_of_ble_eq_true rfl) (lv := [(0, .ref 30), (1, .int a0)]) rfl o_X8_step_0 rfl ?_
  have ua0 := Int32.toInt_lt a0
  have wa0 := Int32.le_toInt a0
  refine wa_aload_n (i := 0) rfl rfl ?_
  refine wa_getr ck_8 fl_8_15 ly_30 rf_30_1 ?_
  refine wa_aload_n (i := 0) rfl rfl ?_
  refine wa_geti ck_8 fl_8_164 ly_30 ?_
  refine wa_aload_n (i := 0) rfl rfl ?_
  refine wa_geti ck_8 fl_8_170 ly_30 ?_
  refine wa_iload_n (i := 1) rfl rfl ?_
  refine wa_Vv (d9 := d - 1) [.int _, .int _, .int _] [] (sp_X2_setStep G (d := d - 1) (by omega) σ _ _ _) (rfl) rfl rfl (zr (by omega)) mk_X2_setStep ly_7 ml_8_182 (Nat.le_of_ble_eq_true rfl) (fun s1 hs1 => ?_)
  obtain ⟨fs1, -⟩ := hs1
  have Fs1 : Fm [11, 30] [] σ s1 := Fm.tr (Fm.rf [11, 30] [] σ) (Fm.ofSm fs1 rfl)
  refine wa_aload_n (i := 0) rfl rfl ?_
  refine wa_dup rfl ?_
  refine wa_geti ck_8 fl_8_170 ly_30 ?_
  refine wa_rw (Sm.gi fs1 13 (Or.inr (by decide))) ?_
  refine wa_iconst (v := 1) (by decide) ?_
  refine wa_iadd ?_
  refine wa_top (fun v3 hv3 => ?_)
  have tv3 := i_addT hv3
  clear hv3
  refine wa_puti ck_8 fl_8_170 ly_30 (fun s4 hs4 => ?_)
  have Fs4 : Fm [11, 30] [] σ s4 := by rw [hs4]; exact Fm.si Fs1 rfl
  refine wa_return (st := []) rfl rfl ?_
  exact ⟨Fs4, trivial⟩
set_option maxHeartbeats 4000000 in
theorem sp_X8_checkDivisor (G : kG9) {d : Nat} (hd : 1 ≤ d) (σ : St) (r1 : (gi σ 18 5).toInt ≤ 2000) : Ct G M_X8_checkDivisor d [.ref 30] σ (fun r σ' => Fm [30] [] σ σ' ∧ True) := by
  refine wa_start (by decide) rfl (Nat.le_of_ble_eq_true rfl) (lv := [(0, .ref 30)]) rfl o_X8_checkDivisor_0 rfl ?_
  refine wa_aload_n (i := 0) rfl rfl ?_
  refine wa_getr ck_8 fl_8_9 ly_30 rf_30_0 ?_
  refine wa_aload_n (i := 0) rfl rfl ?_
  refine wa_geti ck_8 fl_8_79 ly_30 ?_
  refine wa_Vi (d9 := d - 1) [.int _] [] (sp_X3_numberAt G (d := d - 1) (by omega) σ _ (by first | assumption | exact Or.inl rfl | exact Or.inr rfl | (((try simp only [vp_in_iff, Int32.lt_iff_toInt_lt, Int32.le_iff_toInt_le, ← Int32.toInt_inj, Int32.reduceToInt, n_1, n_2, n_8, Int32.toNatClampNeg, Int64.lt_iff_toInt_lt, Int64.le_iff_toInt_le, ← Int64.toInt_inj, Int64.reduceToInt, Int32.toInt_toInt64, lg_cmp_ge, lg_cmp_le, lg_cmp_gt, lg_cmp_lt, lg_cmp_eq, Bool.false_eq_true, Bool.true_eq_false, reduceCtorEq, false_iff, true_iff, iff_true, iff_false, and_true, true_and, and_false, false_and, reduceIte, ite_true, ite_false, eq_self] at *)) <;> omega))) (rfl) rfl rfl (zr (by omega)) mk_X3_numberAt ly_18 ml_8_206 (Nat.le_of_ble_eq_true rfl) (fun x2 s1 hs1 => ?_)
  obtain ⟨zs1, -⟩ := pI hs1
  subst zs1
  refine wa_istore_nD (lv' := [(1, .int x2), (0, .ref 30)]) (i := 1) rfl (by decide) rfl ?_
  refine wa_aload_n (i := 0) rfl rfl ?_
  refine wa_geti ck_8 fl_8_39 ly_30 ?_
  refine wa_iconst (v := 2) (by decide) ?_
  refine wa_icmp_ne o_X8_checkDivisor_45 (by decide) (fun h3 => ?_) (fun h3 => ?_)
  · refine wa_return (st := []) rfl rfl ?_
    exact ⟨(Fm.rf [30] [] σ), trivial⟩
  · refine wa_aload_n (i := 0) rfl rfl ?_
    refine wa_geti ck_8 fl_8_167 ly_30 ?_
    refine wa_bipush (v := 120) (by decide) ?_
    refine wa_icmp_ge o_X8_checkDivisor_45 (by decide) (fun h4 => ?_) (fun h4 => ?_)
    · refine wa_return (st := []) rfl rfl ?_
      exact ⟨(Fm.rf [30] [] σ), trivial⟩
    · have mh4 := nle_mx h4
      refine wa_iload_n (i := 1) rfl rfl ?_
      refine wa_iconst (v := 2) (by decide) ?_
      refine wa_icmp_lt o_X8_checkDivisor_40 (by decide) (fun h5 => ?_) (fun h5 => ?_)
      · refine wa_aload_n (i := 0) rfl rfl ?_
        refine wa_iconst (v := 4) (by decide) ?_
        refine wa_Vv (d9 := d - 1) [.int _] [] (sp_X8_fail G (d := d - 1) (by omega) σ _) (rfl) rfl rfl (zr (by omega)) mk_X8_fail ly_30 ml_8_95 (Nat.le_of_ble_eq_true rfl) (fun s6 hs6 => ?_)
        obtain ⟨fs6, -⟩ := hs6
        have Fs6 : Fm [30] [] σ s6 := Fm.tr (Fm.rf [30] [] σ) (Fm.wd fs6 rfl rfl)
        refine wa_return (st := []) rfl rfl ?_
        exact ⟨Fs6, trivial⟩
      · refine wa_iload_n (i := 1) rfl rfl ?_
        refine wa_bipush (v := 12) (by decide) ?_
        refine wa_icmp_le o_X8_checkDivisor_45 (by decide) (fun h8 => ?_) (fun h8 => ?_)
        · refine wa_return (st := []) rfl rfl ?_
          exact ⟨(Fm.rf [30] [] σ), trivial⟩
        · refine wa_aload_n (i := 0) rfl rfl ?_
          refine wa_iconst (v := 4) (by decide) ?_
          refine wa_Vv (d9 := d - 1) [.int _] [] (sp_X8_fail G (d := d - 1) (by omega) σ _) (rfl) rfl rfl (zr (by omega)) mk_X8_fail ly_30 ml_8_95 (Nat.le_of_ble_eq_true rfl) (fun s9 hs9 => ?_)
          obtain ⟨fs9, -⟩ := hs9
          have Fs9 : Fm [30] [] σ s9 := Fm.tr (Fm.rf [30] [] σ) (Fm.wd fs9 rfl rfl)
          refine wa_return (st := []) rfl rfl ?_
          exact ⟨Fs9, trivial⟩
set_option maxHeartbeats 4000000 in
theorem sp_X8_failIf (G : kG9) {d : Nat} (hd : 1 ≤ d) (σ : St) (a0 : Int32) (a1 : Int32) : Ct G M_X8_failIf d [.ref 30, .int a0, .int a1] σ (fun r σ' => Fm [30] [] σ σ' ∧ True) := by
  refine wa_start (by decide) rfl (Nat.le_of_ble_eq_true rfl) (lv := [(0, .ref 30), (1, .int a0), (2, .int a1)]) rfl o_X8_failIf_0 rfl ?_
  have ua0 := Int32.toInt_lt a0
  have wa0 := Int32.le_toInt a0
  have ua1 := Int32.toInt_lt a1
  have wa1 := Int32.le_toInt a1
  refine wa_iload_n (i := 1) rfl rfl ?_
  refine wa_if_eq o_X8_failIf_23 (by decide) (fun h1 => ?_) (fun h1 => ?_)
  · refine wa_return (st := []) rfl rfl ?_
    exact ⟨(Fm.rf [30] [] σ), trivial⟩
  · refine wa_aload_n (i := 0) rfl rfl ?_
    refine wa_iload_n (i := 1) rfl rfl ?_
    refine wa_puti ck_8 fl_8_62 ly_30 (fun s2 hs2 => ?_)
    have Fs2 : Fm [30] [] σ s2 := by rw [hs2]; exact Fm.si (Fm.rf [30] [] σ) rfl
    refine wa_aload_n (i := 0) rfl rfl ?_
    refine wa_aload_n (i := 0) rfl rfl ?_
    refine wa_getr ck_8 fl_8_15 ly_30 rf_30_1 ?_
    refine wa_iload_n (i := 2) rfl rfl ?_
    refine wa_bipush (v := 9) (by decide) ?_
    refine wa_Vi (d9 := d - 1) [.int _, .int _] [.ref 30] (sp_X2_fact G (d := d - 1) (by omega) s2 _ _) (rfl) rfl rfl (zr (by omega)) mk_X2_fact ly_7 ml_8_139 (Nat.le_of_ble_eq_true rfl) (fun x4 s3 hs3 => ?_)
    obtain ⟨zs3, -⟩ := pI hs3
    subst zs3
    refine wa_puti ck_8 fl_8_123 ly_30 (fun s5 hs5 => ?_)
    have Fs5 : Fm [30] [] σ s5 := by rw [hs5]; exact Fm.si Fs2 rfl
    refine wa_return (st := []) rfl rfl ?_
    exact ⟨Fs5, trivial⟩
set_option maxHeartbeats 4000000 in
theorem sp_X8_expect (G : kG9) {d : Nat} (hd : 1 ≤ d) (σ : St) (a0 : Int32) : Ct G M_X8_expect d [.ref 30, .int a0] σ (fun r σ' => Fm [30] [] σ σ' ∧ True) := by
  refine wa_start (by decide) rfl (Nat.le_of_ble_eq_true rfl) (lv := [(0, .ref 30), (1, .int a0)]) rfl o_X8_expect_0 rfl ?_
  have ua0 := Int32.toInt_lt a0
  have wa0 := Int32.le_toInt a0
  refine wa_aload_n (i := 0) rfl rfl ?_
  refine wa_geti ck_8 fl_8_39 ly_30 ?_
  refine wa_iload_n (i := 1) rfl rfl ?_
  refine wa_icmp_ne o_X8_expect_15 (by decide) (fun h1 => ?_) (fun h1 => ?_)
  · refine wa_aload_n (i := 0) rfl rfl ?_
    refine wa_iconst (v := 2) (by decide) ?_
    refine wa_Vv (d9 := d - 1) [.int _] [] (sp_X8_fail G (d := d - 1) (by omega) σ _) (rfl) rfl rfl (zr (by omega)) mk_X8_fail ly_30 ml_8_95 (Nat.le_of_ble_eq_true rfl) (fun s2 hs2 => ?_)
    obtain ⟨fs2, -⟩ := hs2
    have Fs2 : Fm [30] [] σ s2 := Fm.tr (Fm.rf [30] [] σ) (Fm.wd fs2 rfl rfl)
    refine wa_return (st := []) rfl rfl ?_
    exact ⟨Fs2, trivial⟩
  · refine wa_aload_n (i := 0) rfl rfl ?_
    refine wa_Vv (d9 := d - 1) [] [] (sp_X8_next G (d := d - 1) (by omega) σ ) (rfl) rfl rfl (zr (by omega)) mk_X8_next ly_30 ml_8_98 (Nat.le_of_ble_eq_true rfl) (fun s4 hs4 => ?_)
    obtain ⟨fs4, -⟩ := hs4
    have Fs4 : Fm [30] [] σ s4 := Fm.tr (Fm.rf [30] [] σ) (Fm.wd fs4 rfl rfl)
    refine wa_goto o_X8_expect_20 (by decide) ?_
    refine wa_return (st := []) rfl rfl ?_
    exact ⟨Fs4, trivial⟩
set_option maxHeartbeats 4000000 in
theorem sp_X8_readVariable (G : kG9) {d : Nat} (hd : 1 ≤ d) (σ : St) (r1 : (gi σ 18 5).toInt ≤ 2000) : Ct G M_X8_readVariable d [.ref 30] σ (fun r σ' => Fm [7, 8, 30] [] σ σ' ∧ True) := by
  refine wa_start (by decide) rfl (Nat.le_of_ble_eq_true rfl) (lv := [(0, .ref 30)]) rfl o_X8_readVariable_0 rfl ?_
  refine wa_aload_n (i := 0) rfl rfl ?_
  refine wa_getr ck_8 fl_8_9 ly_30 rf_30_0 ?_
  refine wa_aload_n (i := 0) rfl rfl ?_
  refine wa_geti ck_8 fl_8_79 ly_30 ?_
  refine wa_Vl (d9 := d - 1) [.int _] [] (sp_X3_nameAt G (d := d - 1) (by omega) σ _ (by first | assumption | exact Or.inl rfl | exact Or.inr rfl | (((try simp only [vp_in_iff, Int32.lt_iff_toInt_lt, Int32.le_iff_toInt_le, ← Int32.toInt_inj, Int32.reduceToInt, n_1, n_2, n_8, Int32.toNatClampNeg, Int64.lt_iff_toInt_lt, Int64.le_iff_toInt_le, ← Int64.toInt_inj, Int64.reduceToInt, Int32.toInt_toInt64, lg_cmp_ge, lg_cmp_le, lg_cmp_gt, lg_cmp_lt, lg_cmp_eq, Bool.false_eq_true, Bool.true_eq_false, reduceCtorEq, false_iff, true_iff, iff_true, iff_false, and_true, true_and, and_false, false_and, reduceIte, ite_true, ite_false, eq_self] at *)) <;> omega))) (rfl) rfl rfl (zr (by omega)) mk_X3_nameAt ly_18 ml_8_82 (Nat.le_of_ble_eq_true rfl) (fun x2 s1 hs1 => ?_)
  obtain ⟨zs1, -⟩ := pL hs1
  subst zs1
  refine wa_lstore_nD (lv' := [(1, .long x2), (0, .ref 30)]) (i := 1) rfl (by decide) rfl ?_
  refine wa_aload_n (i := 0) rfl rfl ?_
  refine wa_geti ck_8 fl_8_39 ly_30 ?_
  refine wa_iconst (v := 1) (by decide) ?_
  refine wa_icmp_eq o_X8_readVariable_28 (by decide) (fun h3 => ?_) (fun h3 => ?_)
  · refine wa_aload_n (i := 0) rfl rfl ?_
    refine wa_getr ck_8 fl_8_15 ly_30 rf_30_1 ?_
    refine wa_lload_n (i := 1) rfl rfl ?_
    refine wa_Vi (d9 := d - 1) [.long _] [] (sp_X2_variableOf G (d := d - 1) (by omega) σ _) (rfl) rfl rfl (zr (by omega)) mk_X2_variableOf ly_7 ml_8_92 (Nat.le_of_ble_eq_true rfl) (fun x5 s4 hs4 => ?_)
    obtain ⟨zs4, -⟩ := pI hs4
    subst zs4
    refine wa_iconst (v := (-1)) (by decide) ?_
    refine wa_icmp_ne o_X8_readVariable_52 (by decide) (fun h6 => ?_) (fun h6 => ?_)
    · refine wa_aload_n (i := 0) rfl rfl ?_
      refine wa_iconst (v := 3) (by decide) ?_
      refine wa_Vv (d9 := d - 1) [.int _] [] (sp_X8_fail G (d := d - 1) (by omega) σ _) (rfl) rfl rfl (zr (by omega)) mk_X8_fail ly_30 ml_8_95 (Nat.le_of_ble_eq_true rfl) (fun s7 hs7 => ?_)
      obtain ⟨fs7, -⟩ := hs7
      have Fs7 : Fm [7, 8, 30] [] σ s7 := Fm.tr (Fm.rf [7, 8, 30] [] σ) (Fm.wd fs7 rfl rfl)
      refine wa_goto o_X8_readVariable_83 (by decide) ?_
      refine wa_return (st := []) rfl rfl ?_
      exact ⟨Fs7, trivial⟩
    · refine wa_aload_n (i := 0) rfl rfl ?_
      refine wa_getr ck_8 fl_8_15 ly_30 rf_30_1 ?_
      refine wa_lload_n (i := 1) rfl rfl ?_
      refine wa_Vi (d9 := d - 1) [.long _] [] (sp_X2_claimOf G (d := d - 1) (by omega) σ _) (rfl) rfl rfl (zr (by omega)) mk_X2_claimOf ly_7 ml_8_88 (Nat.le_of_ble_eq_true rfl) (fun x10 s9 hs9 => ?_)
      obtain ⟨zs9, -⟩ := pI hs9
      subst zs9
      refine wa_iconst (v := (-1)) (by decide) ?_
      refine wa_icmp_eq o_X8_readVariable_60 (by decide) (fun h11 => ?_) (fun h11 => ?_)
      · refine wa_aload_n (i := 0) rfl rfl ?_
        refine wa_getr ck_8 fl_8_15 ly_30 rf_30_1 ?_
        refine wa_lload_n (i := 1) rfl rfl ?_
        refine wa_Vi (d9 := d - 1) [.long _] [] (sp_X2_addVariable G (d := d - 1) (by omega) σ _) (rfl) rfl rfl (zr (by omega)) mk_X2_addVariable ly_7 ml_8_146 (Nat.le_of_ble_eq_true rfl) (fun x13 s12 hs12 => ?_)
        obtain ⟨bx13, ex13, fs12, -⟩ := pB hs12
        subst ex13
        have Fs12 : Fm [7, 8, 30] [] σ s12 := Fm.tr (Fm.rf [7, 8, 30] [] σ) (Fm.ofSm fs12 rfl)
        refine wa_if_eq o_X8_readVariable_78 (by decide) (fun h14 => ?_) (fun h14 => ?_)
        · replace h14 := bI_f (b := bx13) (rfl) h14
          refine wa_aload_n (i := 0) rfl rfl ?_
          refine wa_iconst (v := 5) (by decide) ?_
          refine wa_Vv (d9 := d - 1) [.int _] [] (sp_X8_fail G (d := d - 1) (by omega) s12 _) (rfl) rfl rfl (zr (by omega)) mk_X8_fail ly_30 ml_8_95 (Nat.le_of_ble_eq_true rfl) (fun s15 hs15 => ?_)
          obtain ⟨fs15, -⟩ := hs15
          have Fs15 : Fm [7, 8, 30] [] σ s15 := Fm.tr Fs12 (Fm.wd fs15 rfl rfl)
          refine wa_return (st := []) rfl rfl ?_
          exact ⟨Fs15, trivial⟩
        · replace h14 := bI_t (b := bx13) (rfl) h14
          refine wa_aload_n (i := 0) rfl rfl ?_
          refine wa_Vv (d9 := d - 1) [] [] (sp_X8_next G (d := d - 1) (by omega) s12 ) (rfl) rfl rfl (zr (by omega)) mk_X8_next ly_30 ml_8_98 (Nat.le_of_ble_eq_true rfl) (fun s17 hs17 => ?_)
          obtain ⟨fs17, -⟩ := hs17
          have Fs17 : Fm [7, 8, 30] [] σ s17 := Fm.tr Fs12 (Fm.wd fs17 rfl rfl)
          refine wa_goto o_X8_readVariable_83 (by decide) ?_
          refine wa_return (st := []) rfl rfl ?_
          exact ⟨Fs17, trivial⟩
      · refine wa_aload_n (i := 0) rfl rfl ?_
        refine wa_iconst (v := 3) (by decide) ?_
        refine wa_Vv (d9 := d - 1) [.int _] [] (sp_X8_fail G (d := d - 1) (by omega) σ _) (rfl) rfl rfl (zr (by omega)) mk_X8_fail ly_30 ml_8_95 (Nat.le_of_ble_eq_true rfl) (fun s19 hs19 => ?_)
        obtain ⟨fs19, -⟩ := hs19
        have Fs19 : Fm [7, 8, 30] [] σ s19 := Fm.tr (Fm.rf [7, 8, 30] [] σ) (Fm.wd fs19 rfl rfl)
        refine wa_goto o_X8_readVariable_83 (by decide) ?_
        refine wa_return (st := []) rfl rfl ?_
        exact ⟨Fs19, trivial⟩
  · refine wa_aload_n (i := 0) rfl rfl ?_
    refine wa_iconst (v := 2) (by decide) ?_
    refine wa_Vv (d9 := d - 1) [.int _] [] (sp_X8_fail G (d := d - 1) (by omega) σ _) (rfl) rfl rfl (zr (by omega)) mk_X8_fail ly_30 ml_8_95 (Nat.le_of_ble_eq_true rfl) (fun s21 hs21 => ?_)
    obtain ⟨fs21, -⟩ := hs21
    have Fs21 : Fm [7, 8, 30] [] σ s21 := Fm.tr (Fm.rf [7, 8, 30] [] σ) (Fm.wd fs21 rfl rfl)
    refine wa_goto o_X8_readVariable_83 (by decide) ?_
    refine wa_return (st := []) rfl rfl ?_
    exact ⟨Fs21, trivial⟩
set_option maxHeartbeats 4000000 in
theorem sp_X8_readVariables (G : kG9) {d : Nat} (hd : 2 ≤ d) (σ : St) (r1 : (gi σ 18 5).toInt ≤ 2000) : Ct G M_X8_readVariables d [.ref 30] σ (fun r σ' => Fm [7, 8, 30] [] σ σ' ∧ True) := by
  refine wa_start (by decide) rfl (Nat.le_of_ble_eq_true rfl) (lv := [(0, .ref 30)]) rfl o_X8_readVariables_0 rfl ?_
  refine wa_aload_n (i := 0) rfl rfl ?_
  refine wa_Vv (d9 := d - 1) [] [] (sp_X8_next G (d := d - 1) (by omega) σ ) (rfl) rfl rfl (zr (by omega)) mk_X8_next ly_30 ml_8_98 (Nat.le_of_ble_eq_true rfl) (fun s1 hs1 => ?_)
  obtain ⟨fs1, -⟩ := hs1
  have Fs1 : Fm [7, 8, 30] [] σ s1 := Fm.tr (Fm.rf [7, 8, 30] [] σ) (Fm.wd fs1 rfl rfl)
  refine wa_aload_n (i := 0) rfl rfl ?_
  refine wa_Vv (d9 := d - 1) [] [] (sp_X8_readVariable G (d := d - 1) (by omega) s1  (by rw [Fm.gi fs1 (q := 18) (k := 5) rfl rfl]; first | assumption | exact Or.inl rfl | exact Or.inr rfl | (((try simp only [vp_in_iff, Int32.lt_iff_toInt_lt, Int32.le_iff_toInt_le, ← Int32.toInt_inj, Int32.reduceToInt, n_1, n_2, n_8, Int32.toNatClampNeg, Int64.lt_iff_toInt_lt, Int64.le_iff_toInt_le, ← Int64.toInt_inj, Int64.reduceToInt, Int32.toInt_toInt64, lg_cmp_ge, lg_cmp_le, lg_cmp_gt, lg_cmp_lt, lg_cmp_eq, Bool.false_eq_true, Bool.true_eq_false, reduceCtorEq, false_iff, true_iff, iff_true, iff_false, and_true, true_and, and_false, false_and, reduceIte, ite_true, ite_false, eq_self] at *)) <;> omega))) (rfl) rfl rfl (zr (by omega)) mk_X8_readVariable ly_30 ml_8_143 (Nat.le_of_ble_eq_true rfl) (fun s3 hs3 => ?_)
  obtain ⟨fs3, -⟩ := hs3
  have Fs3 : Fm [7, 8, 30] [] σ s3 := Fm.tr Fs1 (Fm.wd fs3 rfl rfl)
  refine wa_iconst (v := 0) (by decide) ?_
  refine wa_istore_nD (lv' := [(1, .int 0), (0, .ref 30)]) (i := 1) rfl (by decide) rfl ?_
  refine wa_pick [1, 0] rfl ?_
  have hi7 : ∀ (n9_10 : Nat) (l1 : Int32) (s5 : St), ((Fm [7, 8, 30] [] σ s5) ∧ (gi s5 18 5 = gi σ 18 5) ∧ (0 ≤ l1.toInt) ∧ (True)) → (2147483647 - l1.toInt).toNat = n9_10 → WA G M_X8_readVariables (ZM G M_X8_readVariables d (fun r σ' => Fm [7, 8, 30] [] σ σ' ∧ True)) B_X8_readVariables_10 [(0, .ref 30), (1, .int l1)] [] s5 := by
    intro n9_10
    induction n9_10 using Nat.strongRecOn with
    | _ n9_10 ih6 =>
      intro l1 s5 i9 m9_10
      obtain ⟨Fs5, khi7_0, jhi7_0, -⟩ := i9
      have ul1 := Int32.toInt_lt l1
      have wl1 := Int32.le_toInt l1
      refine wa_iload_n (i := 1) rfl rfl ?_
      refine wa_sipush (v := 2000) (by decide) ?_
      refine wa_icmp_ge o_X8_readVariables_35 (by decide) (fun h8 => ?_) (fun h8 => ?_)
      · refine wa_return (st := []) rfl rfl ?_
        exact ⟨Fs5, trivial⟩
      · have mh8 := nle_mx h8
        refine wa_aload_n (i := 0) rfl rfl ?_
        refine wa_geti ck_8 fl_8_39 ly_30 ?_
        refine wa_iconst (v := 1) (by decide) ?_
        refine wa_icmp_ne o_X8_readVariables_35 (by decide) (fun h9 => ?_) (fun h9 => ?_)
        · refine wa_return (st := []) rfl rfl ?_
          exact ⟨Fs5, trivial⟩
        · refine wa_aload_n (i := 0) rfl rfl ?_
          refine wa_Vv (d9 := d - 1) [] [] (sp_X8_readVariable G (d := d - 1) (by omega) s5  (by rw [khi7_0]; first | assumption | exact Or.inl rfl | exact Or.inr rfl | (((try simp only [vp_in_iff, Int32.lt_iff_toInt_lt, Int32.le_iff_toInt_le, ← Int32.toInt_inj, Int32.reduceToInt, n_1, n_2, n_8, Int32.toNatClampNeg, Int64.lt_iff_toInt_lt, Int64.le_iff_toInt_le, ← Int64.toInt_inj, Int64.reduceToInt, Int32.toInt_toInt64, lg_cmp_ge, lg_cmp_le, lg_cmp_gt, lg_cmp_lt, lg_cmp_eq, Bool.false_eq_true, Bool.true_eq_false, reduceCtorEq, false_iff, true_iff, iff_true, iff_false, and_true, true_and, and_false, false_and, reduceIte, ite_true, ite_false, eq_self] at *)) <;> omega))) (rfl) rfl rfl (zr (by omega)) mk_X8_readVariable ly_30 ml_8_143 (Nat.le_of_ble_eq_true rfl) (fun s10 hs10 => ?_)
          obtain ⟨fs10, -⟩ := hs10
          have Fs10 : Fm [7, 8, 30] [] σ s10 := Fm.tr Fs5 (Fm.wd fs10 rfl rfl)
          refine wa_iinc (v := (1)) (lv' := fun y12 => [(1, .int y12), (0, .ref 30)]) (by decide) rfl (by decide) (fun _ => rfl) (fun y12 hy12 => ?_)
          have ty12 := i_addT hy12.symm
          clear hy12
          refine wa_goto o_X8_readVariables_10 (by decide) ?_
          refine wa_pick [1, 0] rfl ?_
          exact ih6 _ (by ((try simp only [vp_in_iff, Int32.lt_iff_toInt_lt, Int32.le_iff_toInt_le, ← Int32.toInt_inj, Int32.reduceToInt, n_1, n_2, n_8, Int32.toNatClampNeg, Int64.lt_iff_toInt_lt, Int64.le_iff_toInt_le, ← Int64.toInt_inj, Int64.reduceToInt, Int32.toInt_toInt64, lg_cmp_ge, lg_cmp_le, lg_cmp_gt, lg_cmp_lt, lg_cmp_eq, Bool.false_eq_true, Bool.true_eq_false, reduceCtorEq, false_iff, true_iff, iff_true, iff_false, and_true, true_and, and_false, false_and, reduceIte, ite_true, ite_false, eq_self] at *)) <;> omega) _ _ ⟨Fs10, ((Fm.gi fs10 (q := 18) (k := 5) rfl rfl).trans (khi7_0)), (by ((try simp only [vp_in_iff, Int32.lt_iff_toInt_lt, Int32.le_iff_toInt_le, ← Int32.toInt_inj, Int32.reduceToInt, n_1, n_2, n_8, Int32.toNatClampNeg, Int64.lt_iff_toInt_lt, Int64.le_iff_toInt_le, ← Int64.toInt_inj, Int64.reduceToInt, Int32.toInt_toInt64, lg_cmp_ge, lg_cmp_le, lg_cmp_gt, lg_cmp_lt, lg_cmp_eq, Bool.false_eq_true, Bool.true_eq_false, reduceCtorEq, false_iff, true_iff, iff_true, iff_false, and_true, true_and, and_false, false_and, reduceIte, ite_true, ite_false, eq_self] at *)) <;> omega), trivial⟩ rfl
  exact hi7 _ _ _ ⟨Fs3, ((Fm.gi fs3 (q := 18) (k := 5) rfl rfl).trans (Fm.gi fs1 (q := 18) (k := 5) rfl rfl)), (by ((try simp only [vp_in_iff, Int32.lt_iff_toInt_lt, Int32.le_iff_toInt_le, ← Int32.toInt_inj, Int32.reduceToInt, n_1, n_2, n_8, Int32.toNatClampNeg, Int64.lt_iff_toInt_lt, Int64.le_iff_toInt_le, ← Int64.toInt_inj, Int64.reduceToInt, Int32.toInt_toInt64, lg_cmp_ge, lg_cmp_le, lg_cmp_gt, lg_cmp_lt, lg_cmp_eq, Bool.false_eq_true, Bool.true_eq_false, reduceCtorEq, false_iff, true_iff, iff_true, iff_false, and_true, true_and, and_false, false_and, reduceIte, ite_true, ite_false, eq_self] at *)) <;> omega), trivial⟩ rfl
set_option maxHeartbeats 4000000 in
theorem sp_X8_beginClaim (G : kG9) {d : Nat} (hd : 2 ≤ d) (σ : St) (r1 : (gi σ 18 5).toInt ≤ 2000) : Ct G M_X8_beginClaim d [.ref 30] σ (fun r σ' => ∃ x : Bool, r = some (.int (bI x)) ∧ Fm [30] [] σ σ' ∧ True) := by
  refine wa_start (by decide) rfl (Nat.le_of_ble_eq_true rfl) (lv := [(0, .ref 30)]) rfl o_X8_beginClaim_0 rfl ?_
  refine wa_aload_n (i := 0) rfl rfl ?_
  refine wa_Vv (d9 := d - 1) [] [] (sp_X8_next G (d := d - 1) (by omega) σ ) (rfl) rfl rfl (zr (by omega)) mk_X8_next ly_30 ml_8_98 (Nat.le_of_ble_eq_true rfl) (fun s1 hs1 => ?_)
  obtain ⟨fs1, -⟩ := hs1
  have Fs1 : Fm [30] [] σ s1 := Fm.tr (Fm.rf [30] [] σ) (Fm.wd fs1 rfl rfl)
  refine wa_aload_n (i := 0) rfl rfl ?_
  refine wa_aload_n (i := 0) rfl rfl ?_
  refine wa_getr ck_8 fl_8_9 ly_30 rf_30_0 ?_
  refine wa_aload_n (i := 0) rfl rfl ?_
  refine wa_geti ck_8 fl_8_79 ly_30 ?_
  refine wa_Vl (d9 := d - 1) [.int _] [.ref 30] (sp_X3_nameAt G (d := d - 1) (by omega) s1 _ (by rw [Fm.gi fs1 (q := 18) (k := 5) rfl rfl]; first | assumption | exact Or.inl rfl | exact Or.inr rfl | (((try simp only [vp_in_iff, Int32.lt_iff_toInt_lt, Int32.le_iff_toInt_le, ← Int32.toInt_inj, Int32.reduceToInt, n_1, n_2, n_8, Int32.toNatClampNeg, Int64.lt_iff_toInt_lt, Int64.le_iff_toInt_le, ← Int64.toInt_inj, Int64.reduceToInt, Int32.toInt_toInt64, lg_cmp_ge, lg_cmp_le, lg_cmp_gt, lg_cmp_lt, lg_cmp_eq, Bool.false_eq_true, Bool.true_eq_false, reduceCtorEq, false_iff, true_iff, iff_true, iff_false, and_true, true_and, and_false, false_and, reduceIte, ite_true, ite_false, eq_self] at *)) <;> omega))) (rfl) rfl rfl (zr (by omega)) mk_X3_nameAt ly_18 ml_8_82 (Nat.le_of_ble_eq_true rfl) (fun x4 s3 hs3 => ?_)
  obtain ⟨zs3, -⟩ := pL hs3
  subst zs3
  refine wa_putl ck_8 fl_8_150 ly_30 (fun s5 hs5 => ?_)
  have Fs5 : Fm [30] [] σ s5 := by rw [hs5]; exact Fm.sl Fs1 rfl
  refine wa_aload_n (i := 0) rfl rfl ?_
  refine wa_aload_n (i := 0) rfl rfl ?_
  refine wa_geti ck_8 fl_8_136 ly_30 ?_
  refine wa_rw (nx_gi_sl hs5) ?_
  refine wa_puti ck_8 fl_8_154 ly_30 (fun s6 hs6 => ?_)
  have Fs6 : Fm [30] [] σ s6 := by rw [hs6]; exact Fm.si Fs5 rfl
  refine wa_aload_n (i := 0) rfl rfl ?_
  refine wa_geti ck_8 fl_8_39 ly_30 ?_
  refine wa_rw ((nxk_gi_si hs6 (by decide)).trans (nx_gi_sl hs5)) ?_
  refine wa_iconst (v := 1) (by decide) ?_
  refine wa_icmp_eq o_X8_beginClaim_43 (by decide) (fun h7 => ?_) (fun h7 => ?_)
  · refine wa_aload_n (i := 0) rfl rfl ?_
    refine wa_getr ck_8 fl_8_15 ly_30 rf_30_1 ?_
    refine wa_aload_n (i := 0) rfl rfl ?_
    refine wa_getl ck_8 fl_8_150 ly_30 ?_
    refine wa_rwl ((nx_gl_si hs6).trans (nxe_gl_sl hs5)) ?_
    refine wa_Vi (d9 := d - 1) [.long _] [] (sp_X2_variableOf G (d := d - 1) (by omega) s6 _) (rfl) rfl rfl (zr (by omega)) mk_X2_variableOf ly_7 ml_8_92 (Nat.le_of_ble_eq_true rfl) (fun x9 s8 hs8 => ?_)
    obtain ⟨zs8, -⟩ := pI hs8
    subst zs8
    refine wa_iconst (v := (-1)) (by decide) ?_
    refine wa_icmp_ne o_X8_beginClaim_73 (by decide) (fun h10 => ?_) (fun h10 => ?_)
    · refine wa_aload_n (i := 0) rfl rfl ?_
      refine wa_iconst (v := 3) (by decide) ?_
      refine wa_Vv (d9 := d - 1) [.int _] [] (sp_X8_fail G (d := d - 1) (by omega) s6 _) (rfl) rfl rfl (zr (by omega)) mk_X8_fail ly_30 ml_8_95 (Nat.le_of_ble_eq_true rfl) (fun s11 hs11 => ?_)
      obtain ⟨fs11, -⟩ := hs11
      have Fs11 : Fm [30] [] σ s11 := Fm.tr Fs6 (Fm.wd fs11 rfl rfl)
      refine wa_goto o_X8_beginClaim_111 (by decide) ?_
      refine wa_aload_n (i := 0) rfl rfl ?_
      refine wa_geti ck_8 fl_8_62 ly_30 ?_
      refine wa_if_ne o_X8_beginClaim_122 (by decide) (fun h13 => ?_) (fun h13 => ?_)
      · refine wa_iconst (v := 0) (by decide) ?_
        refine wa_zreturn false (rfl) rfl rfl ?_
        exact ⟨_, rfl, Fs11, trivial⟩
      · refine wa_iconst (v := 1) (by decide) ?_
        refine wa_goto o_X8_beginClaim_123 (by decide) ?_
        refine wa_zreturn true (rfl) rfl rfl ?_
        exact ⟨_, rfl, Fs11, trivial⟩
    · refine wa_aload_n (i := 0) rfl rfl ?_
      refine wa_getr ck_8 fl_8_15 ly_30 rf_30_1 ?_
      refine wa_aload_n (i := 0) rfl rfl ?_
      refine wa_getl ck_8 fl_8_150 ly_30 ?_
      refine wa_rwl ((nx_gl_si hs6).trans (nxe_gl_sl hs5)) ?_
      refine wa_Vi (d9 := d - 1) [.long _] [] (sp_X2_claimOf G (d := d - 1) (by omega) s6 _) (rfl) rfl rfl (zr (by omega)) mk_X2_claimOf ly_7 ml_8_88 (Nat.le_of_ble_eq_true rfl) (fun x15 s14 hs14 => ?_)
      obtain ⟨zs14, -⟩ := pI hs14
      subst zs14
      refine wa_iconst (v := (-1)) (by decide) ?_
      refine wa_icmp_eq o_X8_beginClaim_81 (by decide) (fun h16 => ?_) (fun h16 => ?_)
      · refine wa_aload_n (i := 0) rfl rfl ?_
        refine wa_getr ck_8 fl_8_15 ly_30 rf_30_1 ?_
        refine wa_geti ck_2 fl_8_33 ly_7 ?_
        refine wa_rw ((nxq_gi_si hs6 (by decide)).trans ((nx_gi_sl hs5).trans (Fm.gi fs1 (q := 7) (k := 11) rfl rfl))) ?_
        refine wa_bipush (v := 24) (by decide) ?_
        refine wa_icmp_lt o_X8_beginClaim_101 (by decide) (fun h17 => ?_) (fun h17 => ?_)
        · refine wa_aload_n (i := 0) rfl rfl ?_
          refine wa_Vv (d9 := d - 1) [] [] (sp_X8_next G (d := d - 1) (by omega) s6 ) (rfl) rfl rfl (zr (by omega)) mk_X8_next ly_30 ml_8_98 (Nat.le_of_ble_eq_true rfl) (fun s18 hs18 => ?_)
          obtain ⟨fs18, -⟩ := hs18
          have Fs18 : Fm [30] [] σ s18 := Fm.tr Fs6 (Fm.wd fs18 rfl rfl)
          refine wa_aload_n (i := 0) rfl rfl ?_
          refine wa_bipush (v := 10) (by decide) ?_
          refine wa_Vv (d9 := d - 1) [.int _] [] (sp_X8_expect G (d := d - 1) (by omega) s18 _) (rfl) rfl rfl (zr (by omega)) mk_X8_expect ly_30 ml_8_56 (Nat.le_of_ble_eq_true rfl) (fun s20 hs20 => ?_)
          obtain ⟨fs20, -⟩ := hs20
          have Fs20 : Fm [30] [] σ s20 := Fm.tr Fs18 (Fm.wd fs20 rfl rfl)
          refine wa_aload_n (i := 0) rfl rfl ?_
          refine wa_geti ck_8 fl_8_62 ly_30 ?_
          refine wa_if_ne o_X8_beginClaim_122 (by decide) (fun h22 => ?_) (fun h22 => ?_)
          · refine wa_iconst (v := 0) (by decide) ?_
            refine wa_zreturn false (rfl) rfl rfl ?_
            exact ⟨_, rfl, Fs20, trivial⟩
          · refine wa_iconst (v := 1) (by decide) ?_
            refine wa_goto o_X8_beginClaim_123 (by decide) ?_
            refine wa_zreturn true (rfl) rfl rfl ?_
            exact ⟨_, rfl, Fs20, trivial⟩
        · refine wa_aload_n (i := 0) rfl rfl ?_
          refine wa_iconst (v := 5) (by decide) ?_
          refine wa_Vv (d9 := d - 1) [.int _] [] (sp_X8_fail G (d := d - 1) (by omega) s6 _) (rfl) rfl rfl (zr (by omega)) mk_X8_fail ly_30 ml_8_95 (Nat.le_of_ble_eq_true rfl) (fun s23 hs23 => ?_)
          obtain ⟨fs23, -⟩ := hs23
          have Fs23 : Fm [30] [] σ s23 := Fm.tr Fs6 (Fm.wd fs23 rfl rfl)
          refine wa_goto o_X8_beginClaim_111 (by decide) ?_
          refine wa_aload_n (i := 0) rfl rfl ?_
          refine wa_geti ck_8 fl_8_62 ly_30 ?_
          refine wa_if_ne o_X8_beginClaim_122 (by decide) (fun h25 => ?_) (fun h25 => ?_)
          · refine wa_iconst (v := 0) (by decide) ?_
            refine wa_zreturn false (rfl) rfl rfl ?_
            exact ⟨_, rfl, Fs23, trivial⟩
          · refine wa_iconst (v := 1) (by decide) ?_
            refine wa_goto o_X8_beginClaim_123 (by decide) ?_
            refine wa_zreturn true (rfl) rfl rfl ?_
            exact ⟨_, rfl, Fs23, trivial⟩
      · refine wa_aload_n (i := 0) rfl rfl ?_
        refine wa_iconst (v := 3) (by decide) ?_
        refine wa_Vv (d9 := d - 1) [.int _] [] (sp_X8_fail G (d := d - 1) (by omega) s6 _) (rfl) rfl rfl (zr (by omega)) mk_X8_fail ly_30 ml_8_95 (Nat.le_of_ble_eq_true rfl) (fun s26 hs26 => ?_)
        obtain ⟨fs26, -⟩ := hs26
        have Fs26 : Fm [30] [] σ s26 := Fm.tr Fs6 (Fm.wd fs26 rfl rfl)
        refine wa_goto o_X8_beginClaim_111 (by decide) ?_
        refine wa_aload_n (i := 0) rfl rfl ?_
        refine wa_geti ck_8 fl_8_62 ly_30 ?_
        refine wa_if_ne o_X8_beginClaim_122 (by decide) (fun h28 => ?_) (fun h28 => ?_)
        · refine wa_iconst (v := 0) (by decide) ?_
          refine wa_zreturn false (rfl) rfl rfl ?_
          exact ⟨_, rfl, Fs26, trivial⟩
        · refine wa_iconst (v := 1) (by decide) ?_
          refine wa_goto o_X8_beginClaim_123 (by decide) ?_
          refine wa_zreturn true (rfl) rfl rfl ?_
          exact ⟨_, rfl, Fs26, trivial⟩
  · refine wa_aload_n (i := 0) rfl rfl ?_
    refine wa_iconst (v := 2) (by decide) ?_
    refine wa_Vv (d9 := d - 1) [.int _] [] (sp_X8_fail G (d := d - 1) (by omega) s6 _) (rfl) rfl rfl (zr (by omega)) mk_X8_fail ly_30 ml_8_95 (Nat.le_of_ble_eq_true rfl) (fun s29 hs29 => ?_)
    obtain ⟨fs29, -⟩ := hs29
    have Fs29 : Fm [30] [] σ s29 := Fm.tr Fs6 (Fm.wd fs29 rfl rfl)
    refine wa_goto o_X8_beginClaim_111 (by decide) ?_
    refine wa_aload_n (i := 0) rfl rfl ?_
    refine wa_geti ck_8 fl_8_62 ly_30 ?_
    refine wa_if_ne o_X8_beginClaim_122 (by decide) (fun h31 => ?_) (fun h31 => ?_)
    · refine wa_iconst (v := 0) (by decide) ?_
      refine wa_zreturn false (rfl) rfl rfl ?_
      exact ⟨_, rfl, Fs29, trivial⟩
    · refine wa_iconst (v := 1) (by decide) ?_
      refine wa_goto o_X8_beginClaim_123 (by decide) ?_
      refine wa_zreturn true (rfl) rfl rfl ?_
      exact ⟨_, rfl, Fs29, trivial⟩
set_option maxHeartbeats 4000000 in
theorem sp_X8_endClaim (G : kG9) {d : Nat} (hd : 2 ≤ d) (σ : St) : Ct G M_X8_endClaim d [.ref 30] σ (fun r σ' => Fm [7, 8, 9, 10, 11, 12, 13] [] σ σ' ∧ True) := by
  refine wa_start (by decide) rfl (Nat.le_of_ble_eq_true rfl) (lv := [(0, .ref 30)]) rfl o_X8_endClaim_0 rfl ?_
  refine wa_aload_n (i := 0) rfl rfl ?_
  refine wa_geti ck_8 fl_8_62 ly_30 ?_
  refine wa_if_ne o_X8_endClaim_38 (by decide) (fun h1 => ?_) (fun h1 => ?_)
  · refine wa_return (st := []) rfl rfl ?_
    exact ⟨(Fm.rf [7, 8, 9, 10, 11, 12, 13] [] σ), trivial⟩
  · refine wa_aload_n (i := 0) rfl rfl ?_
    refine wa_getr ck_8 fl_8_15 ly_30 rf_30_1 ?_
    refine wa_aload_n (i := 0) rfl rfl ?_
    refine wa_getr ck_8 fl_8_15 ly_30 rf_30_1 ?_
    refine wa_geti ck_2 fl_8_33 ly_7 ?_
    refine wa_bipush (v := 9) (by decide) ?_
    refine wa_aload_n (i := 0) rfl rfl ?_
    refine wa_geti ck_8 fl_8_154 ly_30 ?_
    refine wa_Vv (d9 := d - 1) [.int _, .int _, .int _] [] (sp_X2_setFact G (d := d - 1) (by omega) σ _ _ _) (rfl) rfl rfl (zr (by omega)) mk_X2_setFact ly_7 ml_8_157 (Nat.le_of_ble_eq_true rfl) (fun s2 hs2 => ?_)
    obtain ⟨fs2, -⟩ := hs2
    have Fs2 : Fm [7, 8, 9, 10, 11, 12, 13] [] σ s2 := Fm.tr (Fm.rf [7, 8, 9, 10, 11, 12, 13] [] σ) (Fm.ofSm fs2 rfl)
    refine wa_aload_n (i := 0) rfl rfl ?_
    refine wa_getr ck_8 fl_8_15 ly_30 rf_30_1 ?_
    refine wa_aload_n (i := 0) rfl rfl ?_
    refine wa_getl ck_8 fl_8_150 ly_30 ?_
    refine wa_rwl (Sm.gl fs2 9 (Or.inr (by decide))) ?_
    refine wa_Vv (d9 := d - 1) [.long _] [] (sp_X2_addClaim G (d := d - 1) (by omega) s2 _) (rfl) rfl rfl (zr (by omega)) mk_X2_addClaim ly_7 ml_8_160 (Nat.le_of_ble_eq_true rfl) (fun s4 hs4 => ?_)
    obtain ⟨fs4, -⟩ := hs4
    have Fs4 : Fm [7, 8, 9, 10, 11, 12, 13] [] σ s4 := Fm.tr Fs2 (Fm.ofSm fs4 rfl)
    refine wa_return (st := []) rfl rfl ?_
    exact ⟨Fs4, trivial⟩
set_option maxHeartbeats 4000000 in
theorem sp_X9_setRow (G : kG9) {d : Nat} (hd : 0 ≤ d) (σ : St) (a0 : Int32) (a1 : Int32) (a2 : Int64) : Ct G M_X9_setRow d [.ref 60, .int a0, .int a1, .long a2] σ (fun r σ' => Sm 61 62 σ σ' ∧ True) := by
  refine wa_start (by decide) rfl (Nat.le_of_ble_eq_true rfl) (lv := [(0, .ref 60), (1, .int a0), (2, .int a1), (3, .long a2)]) rfl o_X9_setRow_0 rfl ?_
  have ua0 := Int32.toInt_lt a0
  have wa0 := Int32.le_toInt a0
  have ua1 := Int32.toInt_lt a1
  have wa1 := Int32.le_toInt a1
  refine wa_iload_n (i := 1) rfl rfl ?_
  refine wa_if_lt o_X9_setRow_31 (by decide) (fun h1 => ?_) (fun h1 => ?_)
  · refine wa_return (st := []) rfl rfl ?_
    exact ⟨(Sm.rf 61 62 σ), trivial⟩
  · refine wa_iload_n (i := 1) rfl rfl ?_
    refine wa_sipush (v := 480) (by decide) ?_
    refine wa_icmp_ge o_X9_setRow_31 (by decide) (fun h2 => ?_) (fun h2 => ?_)
    · refine wa_return (st := []) rfl rfl ?_
      exact ⟨(Sm.rf 61 62 σ), trivial⟩
    · have mh2 := nle_mx h2
      refine wa_iload_n (i := 2) rfl rfl ?_
      refine wa_if_lt o_X9_setRow_31 (by decide) (fun h3 => ?_) (fun h3 => ?_)
      · refine wa_return (st := []) rfl rfl ?_
        exact ⟨(Sm.rf 61 62 σ), trivial⟩
      · refine wa_iload_n (i := 2) rfl rfl ?_
        refine wa_iconst (v := 5) (by decide) ?_
        refine wa_icmp_ge o_X9_setRow_31 (by decide) (fun h4 => ?_) (fun h4 => ?_)
        · refine wa_return (st := []) rfl rfl ?_
          exact ⟨(Sm.rf 61 62 σ), trivial⟩
        · have mh4 := nle_mx h4
          refine wa_aload_n (i := 0) rfl rfl ?_
          refine wa_getr ck_9 fl_9_11 ly_60 rf_60_0 ?_
          refine wa_iload_n (i := 1) rfl rfl ?_
          refine wa_iconst (v := 5) (by decide) ?_
          refine wa_imul ?_
          refine wa_top (fun v5 hv5 => ?_)
          have tv5 := i_mulT hv5
          clear hv5
          refine wa_iload_n (i := 2) rfl rfl ?_
          refine wa_iadd ?_
          refine wa_top (fun v6 hv6 => ?_)
          have tv6 := i_addT hv6
          clear hv6
          refine wa_lload_n (i := 3) rfl rfl ?_
          refine wa_last ly_61 (by ((try simp only [vp_in_iff, Int32.lt_iff_toInt_lt, Int32.le_iff_toInt_le, ← Int32.toInt_inj, Int32.reduceToInt, n_1, n_2, n_8, Int32.toNatClampNeg, Int64.lt_iff_toInt_lt, Int64.le_iff_toInt_le, ← Int64.toInt_inj, Int64.reduceToInt, Int32.toInt_toInt64, lg_cmp_ge, lg_cmp_le, lg_cmp_gt, lg_cmp_lt, lg_cmp_eq, Bool.false_eq_true, Bool.true_eq_false, reduceCtorEq, false_iff, true_iff, iff_true, iff_false, and_true, true_and, and_false, false_and, reduceIte, ite_true, ite_false, eq_self] at *)) <;> omega) (fun s7 hs7 => ?_)
          have Fs7 : Sm 61 62 σ s7 := by rw [hs7]; exact Sm.sl (Sm.rf 61 62 σ) _ _ (by decide) (by decide)
          refine wa_return (st := []) rfl rfl ?_
          exact ⟨Fs7, trivial⟩
set_option maxHeartbeats 4000000 in
theorem sp_X9_clearRow (G : kG9) {d : Nat} (hd : 1 ≤ d) (σ : St) (a0 : Int32) : Ct G M_X9_clearRow d [.ref 60, .int a0] σ (fun r σ' => Sm 61 62 σ σ' ∧ True) := by
  refine wa_start (by decide) rfl (Nat.le_of_ble_eq_true rfl) (lv := [(0, .ref 60), (1, .int a0)]) rfl o_X9_clearRow_0 rfl ?_
  have ua0 := Int32.toInt_lt a0
  have wa0 := Int32.le_toInt a0
  refine wa_iconst (v := 0) (by decide) ?_
  refine wa_istore_nD (lv' := [(2, .int 0), (0, .ref 60), (1, .int a0)]) (i := 2) rfl (by decide) rfl ?_
  refine wa_pick [1, 2, 0] rfl ?_
  have hi3 : ∀ (n9_2 : Nat) (l2 : Int32) (s1 : St), ((Sm 61 62 σ s1) ∧ (0 ≤ l2.toInt) ∧ (True)) → (2147483647 - l2.toInt).toNat = n9_2 → WA G M_X9_clearRow (ZM G M_X9_clearRow d (fun r σ' => Sm 61 62 σ σ' ∧ True)) B_X9_clearRow_2 [(0, .ref 60), (1, .int a0), (2, .int l2)] [] s1 := by
    intro n9_2
    induction n9_2 using Nat.strongRecOn with
    | _ n9_2 ih2 =>
      intro l2 s1 i9 m9_2
      obtain ⟨Fs1, jhi3_0, -⟩ := i9
      have ul2 := Int32.toInt_lt l2
      have wl2 := Int32.le_toInt l2
      refine wa_iload_n (i := 2) rfl rfl ?_
      refine wa_iconst (v := 5) (by decide) ?_
      refine wa_icmp_ge o_X9_clearRow_20 (by decide) (fun h4 => ?_) (fun h4 => ?_)
      · refine wa_return (st := []) rfl rfl ?_
        exact ⟨Fs1, trivial⟩
      · have mh4 := nle_mx h4
        refine wa_aload_n (i := 0) rfl rfl ?_
        refine wa_iload_n (i := 1) rfl rfl ?_
        refine wa_iload_n (i := 2) rfl rfl ?_
        refine wa_lconst (v := 0) (by decide) ?_
        refine wa_Vv (d9 := d - 1) [.int _, .int _, .long _] [] (sp_X9_setRow G (d := d - 1) (by omega) s1 _ _ _) (rfl) rfl rfl (zr (by omega)) mk_X9_setRow ly_60 ml_9_91 (Nat.le_of_ble_eq_true rfl) (fun s5 hs5 => ?_)
        obtain ⟨fs5, -⟩ := hs5
        have Fs5 := Sm.tr Fs1 (Sm.wd fs5 (lo' := 61) (hi' := 62) (by decide) (by decide))
        refine wa_iinc (v := (1)) (lv' := fun y7 => [(2, .int y7), (0, .ref 60), (1, .int a0)]) (by decide) rfl (by decide) (fun _ => rfl) (fun y7 hy7 => ?_)
        have ty7 := i_addT hy7.symm
        clear hy7
        refine wa_goto o_X9_clearRow_2 (by decide) ?_
        refine wa_pick [1, 2, 0] rfl ?_
        exact ih2 _ (by ((try simp only [vp_in_iff, Int32.lt_iff_toInt_lt, Int32.le_iff_toInt_le, ← Int32.toInt_inj, Int32.reduceToInt, n_1, n_2, n_8, Int32.toNatClampNeg, Int64.lt_iff_toInt_lt, Int64.le_iff_toInt_le, ← Int64.toInt_inj, Int64.reduceToInt, Int32.toInt_toInt64, lg_cmp_ge, lg_cmp_le, lg_cmp_gt, lg_cmp_lt, lg_cmp_eq, Bool.false_eq_true, Bool.true_eq_false, reduceCtorEq, false_iff, true_iff, iff_true, iff_false, and_true, true_and, and_false, false_and, reduceIte, ite_true, ite_false, eq_self] at *)) <;> omega) _ _ ⟨Fs5, (by ((try simp only [vp_in_iff, Int32.lt_iff_toInt_lt, Int32.le_iff_toInt_le, ← Int32.toInt_inj, Int32.reduceToInt, n_1, n_2, n_8, Int32.toNatClampNeg, Int64.lt_iff_toInt_lt, Int64.le_iff_toInt_le, ← Int64.toInt_inj, Int64.reduceToInt, Int32.toInt_toInt64, lg_cmp_ge, lg_cmp_le, lg_cmp_gt, lg_cmp_lt, lg_cmp_eq, Bool.false_eq_true, Bool.true_eq_false, reduceCtorEq, false_iff, true_iff, iff_true, iff_false, and_true, true_and, and_false, false_and, reduceIte, ite_true, ite_false, eq_self] at *)) <;> omega), trivial⟩ rfl
  exact hi3 _ _ _ ⟨(Sm.rf 61 62 σ), (by ((try simp only [vp_in_iff, Int32.lt_iff_toInt_lt, Int32.le_iff_toInt_le, ← Int32.toInt_inj, Int32.reduceToInt, n_1, n_2, n_8, Int32.toNatClampNeg, Int64.lt_iff_toInt_lt, Int64.le_iff_toInt_le, ← Int64.toInt_inj, Int64.reduceToInt, Int32.toInt_toInt64, lg_cmp_ge, lg_cmp_le, lg_cmp_gt, lg_cmp_lt, lg_cmp_eq, Bool.false_eq_true, Bool.true_eq_false, reduceCtorEq, false_iff, true_iff, iff_true, iff_false, and_true, true_and, and_false, false_and, reduceIte, ite_true, ite_false, eq_self] at *)) <;> omega), trivial⟩ rfl
set_option maxHeartbeats 4000000 in
theorem sp_X9_rowNumber (G : kG9) {d : Nat} (hd : 0 ≤ d) (σ : St) (a0 : Int32) (a1 : Int32) : Ct G M_X9_rowNumber d [.ref 60, .int a0, .int a1] σ (fun r σ' => ∃ x : Int64, r = some (.long x) ∧ σ = σ' ∧ True) := by
  refine wa_start (by decide) rfl (Nat.le_of_ble_eq_true rfl) (lv := [(0, .ref 60), (1, .int a0), (2, .int a1)]) rfl o_X9_rowNumber_0 rfl ?_
  have ua0 := Int32.toInt_lt a0
  have wa0 := Int32.le_toInt a0
  have ua1 := Int32.toInt_lt a1
  have wa1 := Int32.le_toInt a1
  refine wa_iload_n (i := 1) rfl rfl ?_
  refine wa_if_lt o_X9_rowNumber_33 (by decide) (fun h1 => ?_) (fun h1 => ?_)
  · refine wa_lconst (v := 0) (by decide) ?_
    refine wa_lreturn rfl rfl ?_
    exact ⟨_, rfl, rfl, trivial⟩
  · refine wa_iload_n (i := 1) rfl rfl ?_
    refine wa_sipush (v := 480) (by decide) ?_
    refine wa_icmp_ge o_X9_rowNumber_33 (by decide) (fun h2 => ?_) (fun h2 => ?_)
    · refine wa_lconst (v := 0) (by decide) ?_
      refine wa_lreturn rfl rfl ?_
      exact ⟨_, rfl, rfl, trivial⟩
    · have mh2 := nle_mx h2
      refine wa_iload_n (i := 2) rfl rfl ?_
      refine wa_if_lt o_X9_rowNumber_33 (by decide) (fun h3 => ?_) (fun h3 => ?_)
      · refine wa_lconst (v := 0) (by decide) ?_
        refine wa_lreturn rfl rfl ?_
        exact ⟨_, rfl, rfl, trivial⟩
      · refine wa_iload_n (i := 2) rfl rfl ?_
        refine wa_iconst (v := 5) (by decide) ?_
        refine wa_icmp_ge o_X9_rowNumber_33 (by decide) (fun h4 => ?_) (fun h4 => ?_)
        · refine wa_lconst (v := 0) (by decide) ?_
          refine wa_lreturn rfl rfl ?_
          exact ⟨_, rfl, rfl, trivial⟩
        · have mh4 := nle_mx h4
          refine wa_aload_n (i := 0) rfl rfl ?_
          refine wa_getr ck_9 fl_9_11 ly_60 rf_60_0 ?_
          refine wa_iload_n (i := 1) rfl rfl ?_
          refine wa_iconst (v := 5) (by decide) ?_
          refine wa_imul ?_
          refine wa_top (fun v5 hv5 => ?_)
          have tv5 := i_mulT hv5
          clear hv5
          refine wa_iload_n (i := 2) rfl rfl ?_
          refine wa_iadd ?_
          refine wa_top (fun v6 hv6 => ?_)
          have tv6 := i_addT hv6
          clear hv6
          refine wa_lald ly_61 (by ((try simp only [vp_in_iff, Int32.lt_iff_toInt_lt, Int32.le_iff_toInt_le, ← Int32.toInt_inj, Int32.reduceToInt, n_1, n_2, n_8, Int32.toNatClampNeg, Int64.lt_iff_toInt_lt, Int64.le_iff_toInt_le, ← Int64.toInt_inj, Int64.reduceToInt, Int32.toInt_toInt64, lg_cmp_ge, lg_cmp_le, lg_cmp_gt, lg_cmp_lt, lg_cmp_eq, Bool.false_eq_true, Bool.true_eq_false, reduceCtorEq, false_iff, true_iff, iff_true, iff_false, and_true, true_and, and_false, false_and, reduceIte, ite_true, ite_false, eq_self] at *)) <;> omega) ?_
          refine wa_goto o_X9_rowNumber_34 (by decide) ?_
          refine wa_lreturn rfl rfl ?_
          exact ⟨_, rfl, rfl, trivial⟩
set_option maxHeartbeats 4000000 in
theorem sp_X9_isLike (G : kG9) {d : Nat} (hd : 1 ≤ d) (σ : St) (a0 : Int32) (a1 : Int32) : Ct G M_X9_isLike d [.ref 60, .int a0, .int a1] σ (fun r σ' => ∃ x : Bool, r = some (.int (bI x)) ∧ σ = σ' ∧ True) := by
  refine wa_start (by decide) rfl (Nat.le_of_ble_eq_true rfl) (lv := [(0, .ref 60), (1, .int a0), (2, .int a1)]) rfl o_X9_isLike_0 rfl ?_
  have ua0 := Int32.toInt_lt a0
  have wa0 := Int32.le_toInt a0
  have ua1 := Int32.toInt_lt a1
  have wa1 := Int32.le_toInt a1
  refine wa_iconst (v := 1) (by decide) ?_
  refine wa_istore_nD (lv' := [(3, .int (bI true)), (0, .ref 60), (1, .int a0), (2, .int a1)]) (i := 3) rfl (by decide) rfl ?_
  refine wa_iconst (v := 0) (by decide) ?_
  refine wa_istoreD (lv' := [(4, .int 0), (3, .int (bI true)), (0, .ref 60), (1, .int a0), (2, .int a1)]) (by decide) rfl ?_
  refine wa_pick [2, 3, 4, 1, 0] rfl ?_
  have hi2 : ∀ (n9_5 : Nat) (l3 : Bool) (l4 : Int32), ((0 ≤ l4.toInt) ∧ (True)) → (2147483647 - l4.toInt).toNat = n9_5 → WA G M_X9_isLike (ZM G M_X9_isLike d (fun r σ' => ∃ x : Bool, r = some (.int (bI x)) ∧ σ = σ' ∧ True)) B_X9_isLike_5 [(0, .ref 60), (1, .int a0), (2, .int a1), (3, .int (bI l3)), (4, .int l4)] [] σ := by
    intro n9_5
    induction n9_5 using Nat.strongRecOn with
    | _ n9_5 ih1 =>
      intro l3 l4  i9 m9_5
      obtain ⟨jhi2_0, -⟩ := i9
      have ul4 := Int32.toInt_lt l4
      have wl4 := Int32.le_toInt l4
      refine wa_iload rfl ?_
      refine wa_iconst (v := 5) (by decide) ?_
      refine wa_icmp_ge o_X9_isLike_43 (by decide) (fun h3 => ?_) (fun h3 => ?_)
      · refine wa_iload_n (i := 3) rfl rfl ?_
        refine wa_zreturn l3 (rfl) rfl rfl ?_
        exact ⟨_, rfl, rfl, trivial⟩
      · have mh3 := nle_mx h3
        refine wa_iload_n (i := 3) rfl rfl ?_
        refine wa_aload_n (i := 0) rfl rfl ?_
        refine wa_iload_n (i := 1) rfl rfl ?_
        refine wa_iload rfl ?_
        refine wa_Vl (d9 := d - 1) [.int _, .int _] [.int (bI l3)] (sp_X9_rowNumber G (d := d - 1) (by omega) σ _ _) (rfl) rfl rfl (zr (by omega)) mk_X9_rowNumber ly_60 ml_9_99 (Nat.le_of_ble_eq_true rfl) (fun x5 s4 hs4 => ?_)
        obtain ⟨zs4, -⟩ := pL hs4
        subst zs4
        refine wa_aload_n (i := 0) rfl rfl ?_
        refine wa_iload_n (i := 2) rfl rfl ?_
        refine wa_iload rfl ?_
        refine wa_Vl (d9 := d - 1) [.int _, .int _] [.long x5, .int (bI l3)] (sp_X9_rowNumber G (d := d - 1) (by omega) σ _ _) (rfl) rfl rfl (zr (by omega)) mk_X9_rowNumber ly_60 ml_9_99 (Nat.le_of_ble_eq_true rfl) (fun x7 s6 hs6 => ?_)
        obtain ⟨zs6, -⟩ := pL hs6
        subst zs6
        refine wa_lcmp ?_
        refine wa_top (fun v8 hv8 => ?_)
        have tv8 := i_cmpT hv8
        clear hv8
        refine wa_if_ne o_X9_isLike_34 (by decide) (fun h9 => ?_) (fun h9 => ?_)
        · refine wa_iconst (v := 0) (by decide) ?_
          refine wa_iand ?_
          refine wa_rw (bI_and (a := l3) (b := false) rfl rfl) ?_
          refine wa_istore_nD (lv' := [(3, .int (bI (l3 && false))), (0, .ref 60), (1, .int a0), (2, .int a1), (4, .int l4)]) (i := 3) rfl (by decide) rfl ?_
          refine wa_iinc (v := (1)) (lv' := fun y10 => [(4, .int y10), (3, .int (bI (l3 && false))), (0, .ref 60), (1, .int a0), (2, .int a1)]) (by decide) rfl (by decide) (fun _ => rfl) (fun y10 hy10 => ?_)
          have ty10 := i_addT hy10.symm
          clear hy10
          refine wa_goto o_X9_isLike_5 (by decide) ?_
          refine wa_pick [2, 3, 4, 1, 0] rfl ?_
          exact ih1 _ (by ((try simp only [vp_in_iff, Int32.lt_iff_toInt_lt, Int32.le_iff_toInt_le, ← Int32.toInt_inj, Int32.reduceToInt, n_1, n_2, n_8, Int32.toNatClampNeg, Int64.lt_iff_toInt_lt, Int64.le_iff_toInt_le, ← Int64.toInt_inj, Int64.reduceToInt, Int32.toInt_toInt64, lg_cmp_ge, lg_cmp_le, lg_cmp_gt, lg_cmp_lt, lg_cmp_eq, Bool.false_eq_true, Bool.true_eq_false, reduceCtorEq, false_iff, true_iff, iff_true, iff_false, and_true, true_and, and_false, false_and, reduceIte, ite_true, ite_false, eq_self] at *)) <;> omega) _ _ ⟨(by ((try simp only [vp_in_iff, Int32.lt_iff_toInt_lt, Int32.le_iff_toInt_le, ← Int32.toInt_inj, Int32.reduceToInt, n_1, n_2, n_8, Int32.toNatClampNeg, Int64.lt_iff_toInt_lt, Int64.le_iff_toInt_le, ← Int64.toInt_inj, Int64.reduceToInt, Int32.toInt_toInt64, lg_cmp_ge, lg_cmp_le, lg_cmp_gt, lg_cmp_lt, lg_cmp_eq, Bool.false_eq_true, Bool.true_eq_false, reduceCtorEq, false_iff, true_iff, iff_true, iff_false, and_true, true_and, and_false, false_and, reduceIte, ite_true, ite_false, eq_self] at *)) <;> omega), trivial⟩ rfl
        · refine wa_iconst (v := 1) (by decide) ?_
          refine wa_goto o_X9_isLike_35 (by decide) ?_
          refine wa_iand ?_
          refine wa_rw (bI_and (a := l3) (b := true) rfl rfl) ?_
          refine wa_istore_nD (lv' := [(3, .int (bI (l3 && true))), (0, .ref 60), (1, .int a0), (2, .int a1), (4, .int l4)]) (i := 3) rfl (by decide) rfl ?_
          refine wa_iinc (v := (1)) (lv' := fun y11 => [(4, .int y11), (3, .int (bI (l3 && true))), (0, .ref 60), (1, .int a0), (2, .int a1)]) (by decide) rfl (by decide) (fun _ => rfl) (fun y11 hy11 => ?_)
          have ty11 := i_addT hy11.symm
          clear hy11
          refine wa_goto o_X9_isLike_5 (by decide) ?_
          refine wa_pick [2, 3, 4, 1, 0] rfl ?_
          exact ih1 _ (by ((try simp only [vp_in_iff, Int32.lt_iff_toInt_lt, Int32.le_iff_toInt_le, ← Int32.toInt_inj, Int32.reduceToInt, n_1, n_2, n_8, Int32.toNatClampNeg, Int64.lt_iff_toInt_lt, Int64.le_iff_toInt_le, ← Int64.toInt_inj, Int64.reduceToInt, Int32.toInt_toInt64, lg_cmp_ge, lg_cmp_le, lg_cmp_gt, lg_cmp_lt, lg_cmp_eq, Bool.false_eq_true, Bool.true_eq_false, reduceCtorEq, false_iff, true_iff, iff_true, iff_false, and_true, true_and, and_false, false_and, reduceIte, ite_true, ite_false, eq_self] at *)) <;> omega) _ _ ⟨(by ((try simp only [vp_in_iff, Int32.lt_iff_toInt_lt, Int32.le_iff_toInt_le, ← Int32.toInt_inj, Int32.reduceToInt, n_1, n_2, n_8, Int32.toNatClampNeg, Int64.lt_iff_toInt_lt, Int64.le_iff_toInt_le, ← Int64.toInt_inj, Int64.reduceToInt, Int32.toInt_toInt64, lg_cmp_ge, lg_cmp_le, lg_cmp_gt, lg_cmp_lt, lg_cmp_eq, Bool.false_eq_true, Bool.true_eq_false, reduceCtorEq, false_iff, true_iff, iff_true, iff_false, and_true, true_and, and_false, false_and, reduceIte, ite_true, ite_false, eq_self] at *)) <;> omega), trivial⟩ rfl
  exact hi2 _ _ _ ⟨(by ((try simp only [vp_in_iff, Int32.lt_iff_toInt_lt, Int32.le_iff_toInt_le, ← Int32.toInt_inj, Int32.reduceToInt, n_1, n_2, n_8, Int32.toNatClampNeg, Int64.lt_iff_toInt_lt, Int64.le_iff_toInt_le, ← Int64.toInt_inj, Int64.reduceToInt, Int32.toInt_toInt64, lg_cmp_ge, lg_cmp_le, lg_cmp_gt, lg_cmp_lt, lg_cmp_eq, Bool.false_eq_true, Bool.true_eq_false, reduceCtorEq, false_iff, true_iff, iff_true, iff_false, and_true, true_and, and_false, false_and, reduceIte, ite_true, ite_false, eq_self] at *)) <;> omega), trivial⟩ rfl
set_option maxHeartbeats 4000000 in
theorem sp_X9_takeAtom (G : kG9) {d : Nat} (hd : 2 ≤ d) (σ : St) (a1 : Int32) (r1 : 0 ≤ (gi σ 60 12).toInt ∧ (gi σ 60 12).toInt ≤ 4) : Ct G M_X9_takeAtom d [.ref 60, .ref 7, .int a1] σ (fun r σ' => ∃ x : Bool, r = some (.int (bI x)) ∧ Sm 60 62 σ σ' ∧ (0 ≤ (gi σ' 60 12).toInt ∧ (gi σ' 60 12).toInt ≤ 4) ∧ True) := by
  refine wa_start (by decide) rfl (Nat.le_of_ble_eq_true rfl) (lv := [(0, .ref 60), (1, .ref 7), (2, .int a1)]) rfl o_X9_takeAtom_0 rfl ?_
  have ua1 := Int32.toInt_lt a1
  have wa1 := Int32.le_toInt a1
  refine wa_aload_n (i := 0) rfl rfl ?_
  refine wa_aload_n (i := 0) rfl rfl ?_
  refine wa_geti ck_9 fl_9_44 ly_60 ?_
  refine wa_Vv (d9 := d - 1) [.int _] [] (sp_X9_clearRow G (d := d - 1) (by omega) σ _) (rfl) rfl rfl (zr (by omega)) mk_X9_clearRow ly_60 ml_9_82 (Nat.le_of_ble_eq_true rfl) (fun s1 hs1 => ?_)
  obtain ⟨fs1, -⟩ := hs1
  have Fs1 := Sm.tr (Sm.rf 60 62 σ) (Sm.wd fs1 (lo' := 60) (hi' := 62) (by decide) (by decide))
  refine wa_iconst (v := 0) (by decide) ?_
  refine wa_istore_nD (lv' := [(3, .int 0), (0, .ref 60), (1, .ref 7), (2, .int a1)]) (i := 3) rfl (by decide) rfl ?_
  refine wa_pick [1, 2, 3, 0] rfl ?_
  have hi5 : ∀ (n9_10 : Nat) (l3 : Int32) (s3 : St), ((Sm 60 62 σ s3) ∧ (gi s3 60 12 = gi σ 60 12) ∧ (gi s3 60 11 = gi σ 60 11) ∧ (0 ≤ l3.toInt) ∧ (True)) → (2147483647 - l3.toInt).toNat = n9_10 → WA G M_X9_takeAtom (ZM G M_X9_takeAtom d (fun r σ' => ∃ x : Bool, r = some (.int (bI x)) ∧ Sm 60 62 σ σ' ∧ (0 ≤ (gi σ' 60 12).toInt ∧ (gi σ' 60 12).toInt ≤ 4) ∧ True)) B_X9_takeAtom_10 [(0, .ref 60), (1, .ref 7), (2, .int a1), (3, .int l3)] [] s3 := by
    intro n9_10
    induction n9_10 using Nat.strongRecOn with
    | _ n9_10 ih4 =>
      intro l3 s3 i9 m9_10
      obtain ⟨Fs3, khi5_0, khi5_1, jhi5_0, -⟩ := i9
      have ul3 := Int32.toInt_lt l3
      have wl3 := Int32.le_toInt l3
      refine wa_iload_n (i := 3) rfl rfl ?_
      refine wa_iconst (v := 5) (by decide) ?_
      refine wa_icmp_ge o_X9_takeAtom_57 (by decide) (fun h6 => ?_) (fun h6 => ?_)
      · refine wa_iconst (v := 0) (by decide) ?_
        refine wa_istore_nD (lv' := [(3, .int 0), (0, .ref 60), (1, .ref 7), (2, .int a1)]) (i := 3) rfl (by decide) rfl ?_
        refine wa_pick [1, 0] rfl ?_
        have hi9 : ∀ (n9_59 : Nat) (l3 : Int32) (s7 : St), ((Sm 60 62 σ s7) ∧ (gi s7 60 12 = gi σ 60 12) ∧ (gi s7 60 11 = gi σ 60 11) ∧ (0 ≤ l3.toInt) ∧ (True)) → (2147483647 - l3.toInt).toNat = n9_59 → WA G M_X9_takeAtom (ZM G M_X9_takeAtom d (fun r σ' => ∃ x : Bool, r = some (.int (bI x)) ∧ Sm 60 62 σ σ' ∧ (0 ≤ (gi σ' 60 12).toInt ∧ (gi σ' 60 12).toInt ≤ 4) ∧ True)) B_X9_takeAtom_59 [(0, .ref 60), (3, .int l3)] [] s7 := by
          intro n9_59
          induction n9_59 using Nat.strongRecOn with
          | _ n9_59 ih8 =>
            intro l3 s7 i9 m9_59
            obtain ⟨Fs7, khi9_0, khi9_1, jhi9_0, -⟩ := i9
            have ul3 := Int32.toInt_lt l3
            have wl3 := Int32.le_toInt l3
            refine wa_iload_n (i := 3) rfl rfl ?_
            refine wa_aload_n (i := 0) rfl rfl ?_
            refine wa_geti ck_9 fl_9_44 ly_60 ?_
            refine wa_rw (khi9_1) ?_
            refine wa_icmp_ge o_X9_takeAtom_87 (by decide) (fun h10 => ?_) (fun h10 => ?_)
            · refine wa_aload_n (i := 0) rfl rfl ?_
              refine wa_geti ck_9 fl_9_44 ly_60 ?_
              refine wa_rw (khi9_1) ?_
              refine wa_bipush (v := 40) (by decide) ?_
              refine wa_icmp_lt o_X9_takeAtom_98 (by decide) (fun h11 => ?_) (fun h11 => ?_)
              · refine wa_aload_n (i := 0) rfl rfl ?_
                refine wa_dup rfl ?_
                refine wa_geti ck_9 fl_9_44 ly_60 ?_
                refine wa_rw (khi9_1) ?_
                refine wa_iconst (v := 1) (by decide) ?_
                refine wa_iadd ?_
                refine wa_top (fun v12 hv12 => ?_)
                have tv12 := i_addT hv12
                clear hv12
                refine wa_puti ck_9 fl_9_44 ly_60 (fun s13 hs13 => ?_)
                have Fs13 : Sm 60 62 σ s13 := by rw [hs13]; exact Sm.si Fs7 _ _ (by decide) (by decide)
                refine wa_iconst (v := 1) (by decide) ?_
                refine wa_zreturn true (rfl) rfl rfl ?_
                exact ⟨_, rfl, Fs13, (by rw [(nxk_gi_si hs13 (by decide)).trans (khi9_0)]; first | assumption | (((try simp only [vp_in_iff, Int32.lt_iff_toInt_lt, Int32.le_iff_toInt_le, ← Int32.toInt_inj, Int32.reduceToInt, n_1, n_2, n_8, Int32.toNatClampNeg, Int64.lt_iff_toInt_lt, Int64.le_iff_toInt_le, ← Int64.toInt_inj, Int64.reduceToInt, Int32.toInt_toInt64, lg_cmp_ge, lg_cmp_le, lg_cmp_gt, lg_cmp_lt, lg_cmp_eq, Bool.false_eq_true, Bool.true_eq_false, reduceCtorEq, false_iff, true_iff, iff_true, iff_false, and_true, true_and, and_false, false_and, reduceIte, ite_true, ite_false, eq_self] at *)) <;> omega)), trivial⟩
              · refine wa_iconst (v := 0) (by decide) ?_
                refine wa_zreturn false (rfl) rfl rfl ?_
                exact ⟨_, rfl, Fs7, (by rw [khi9_0]; first | assumption | (((try simp only [vp_in_iff, Int32.lt_iff_toInt_lt, Int32.le_iff_toInt_le, ← Int32.toInt_inj, Int32.reduceToInt, n_1, n_2, n_8, Int32.toNatClampNeg, Int64.lt_iff_toInt_lt, Int64.le_iff_toInt_le, ← Int64.toInt_inj, Int64.reduceToInt, Int32.toInt_toInt64, lg_cmp_ge, lg_cmp_le, lg_cmp_gt, lg_cmp_lt, lg_cmp_eq, Bool.false_eq_true, Bool.true_eq_false, reduceCtorEq, false_iff, true_iff, iff_true, iff_false, and_true, true_and, and_false, false_and, reduceIte, ite_true, ite_false, eq_self] at *)) <;> omega)), trivial⟩
            · have mh10 := nle_mx h10
              refine wa_aload_n (i := 0) rfl rfl ?_
              refine wa_iload_n (i := 3) rfl rfl ?_
              refine wa_aload_n (i := 0) rfl rfl ?_
              refine wa_geti ck_9 fl_9_44 ly_60 ?_
              refine wa_rw (khi9_1) ?_
              refine wa_Vi (d9 := d - 1) [.int _, .int _] [] (sp_X9_isLike G (d := d - 1) (by omega) s7 _ _) (rfl) rfl rfl (zr (by omega)) mk_X9_isLike ly_60 ml_9_95 (Nat.le_of_ble_eq_true rfl) (fun x15 s14 hs14 => ?_)
              obtain ⟨bx15, ex15, zs14, -⟩ := pB hs14
              subst ex15
              subst zs14
              refine wa_if_eq o_X9_takeAtom_81 (by decide) (fun h16 => ?_) (fun h16 => ?_)
              · replace h16 := bI_f (b := bx15) (rfl) h16
                refine wa_iinc (v := (1)) (lv' := fun y17 => [(3, .int y17), (0, .ref 60)]) (by decide) rfl (by decide) (fun _ => rfl) (fun y17 hy17 => ?_)
                have ty17 := i_addT hy17.symm
                clear hy17
                refine wa_goto o_X9_takeAtom_59 (by decide) ?_
                refine wa_pick [1, 0] rfl ?_
                exact ih8 _ (by ((try simp only [vp_in_iff, Int32.lt_iff_toInt_lt, Int32.le_iff_toInt_le, ← Int32.toInt_inj, Int32.reduceToInt, n_1, n_2, n_8, Int32.toNatClampNeg, Int64.lt_iff_toInt_lt, Int64.le_iff_toInt_le, ← Int64.toInt_inj, Int64.reduceToInt, Int32.toInt_toInt64, lg_cmp_ge, lg_cmp_le, lg_cmp_gt, lg_cmp_lt, lg_cmp_eq, Bool.false_eq_true, Bool.true_eq_false, reduceCtorEq, false_iff, true_iff, iff_true, iff_false, and_true, true_and, and_false, false_and, reduceIte, ite_true, ite_false, eq_self] at *)) <;> omega) _ _ ⟨Fs7, (khi9_0), (khi9_1), (by ((try simp only [vp_in_iff, Int32.lt_iff_toInt_lt, Int32.le_iff_toInt_le, ← Int32.toInt_inj, Int32.reduceToInt, n_1, n_2, n_8, Int32.toNatClampNeg, Int64.lt_iff_toInt_lt, Int64.le_iff_toInt_le, ← Int64.toInt_inj, Int64.reduceToInt, Int32.toInt_toInt64, lg_cmp_ge, lg_cmp_le, lg_cmp_gt, lg_cmp_lt, lg_cmp_eq, Bool.false_eq_true, Bool.true_eq_false, reduceCtorEq, false_iff, true_iff, iff_true, iff_false, and_true, true_and, and_false, false_and, reduceIte, ite_true, ite_false, eq_self] at *)) <;> omega), trivial⟩ rfl
              · replace h16 := bI_t (b := bx15) (rfl) h16
                refine wa_iconst (v := 1) (by decide) ?_
                refine wa_zreturn true (rfl) rfl rfl ?_
                exact ⟨_, rfl, Fs7, (by rw [khi9_0]; first | assumption | (((try simp only [vp_in_iff, Int32.lt_iff_toInt_lt, Int32.le_iff_toInt_le, ← Int32.toInt_inj, Int32.reduceToInt, n_1, n_2, n_8, Int32.toNatClampNeg, Int64.lt_iff_toInt_lt, Int64.le_iff_toInt_le, ← Int64.toInt_inj, Int64.reduceToInt, Int32.toInt_toInt64, lg_cmp_ge, lg_cmp_le, lg_cmp_gt, lg_cmp_lt, lg_cmp_eq, Bool.false_eq_true, Bool.true_eq_false, reduceCtorEq, false_iff, true_iff, iff_true, iff_false, and_true, true_and, and_false, false_and, reduceIte, ite_true, ite_false, eq_self] at *)) <;> omega)), trivial⟩
        exact hi9 _ _ _ ⟨Fs3, (khi5_0), (khi5_1), (by ((try simp only [vp_in_iff, Int32.lt_iff_toInt_lt, Int32.le_iff_toInt_le, ← Int32.toInt_inj, Int32.reduceToInt, n_1, n_2, n_8, Int32.toNatClampNeg, Int64.lt_iff_toInt_lt, Int64.le_iff_toInt_le, ← Int64.toInt_inj, Int64.reduceToInt, Int32.toInt_toInt64, lg_cmp_ge, lg_cmp_le, lg_cmp_gt, lg_cmp_lt, lg_cmp_eq, Bool.false_eq_true, Bool.true_eq_false, reduceCtorEq, false_iff, true_iff, iff_true, iff_false, and_true, true_and, and_false, false_and, reduceIte, ite_true, ite_false, eq_self] at *)) <;> omega), trivial⟩ rfl
      · have mh6 := nle_mx h6
        refine wa_aload_n (i := 0) rfl rfl ?_
        refine wa_aload_n (i := 0) rfl rfl ?_
        refine wa_geti ck_9 fl_9_44 ly_60 ?_
        refine wa_rw (khi5_1) ?_
        refine wa_iload_n (i := 3) rfl rfl ?_
        refine wa_iload_n (i := 2) rfl rfl ?_
        refine wa_iconst (v := (-1)) (by decide) ?_
        refine wa_icmp_eq o_X9_takeAtom_36 (by decide) (fun h18 => ?_) (fun h18 => ?_)
        · refine wa_iload_n (i := 3) rfl rfl ?_
          refine wa_iconst (v := 4) (by decide) ?_
          refine wa_icmp_ne o_X9_takeAtom_47 (by decide) (fun h19 => ?_) (fun h19 => ?_)
          · refine wa_lconst (v := 0) (by decide) ?_
            refine wa_Vv (d9 := d - 1) [.int _, .int _, .long _] [] (sp_X9_setRow G (d := d - 1) (by omega) s3 _ _ _) (rfl) rfl rfl (zr (by omega)) mk_X9_setRow ly_60 ml_9_91 (Nat.le_of_ble_eq_true rfl) (fun s20 hs20 => ?_)
            obtain ⟨fs20, -⟩ := hs20
            have Fs20 := Sm.tr Fs3 (Sm.wd fs20 (lo' := 60) (hi' := 62) (by decide) (by decide))
            refine wa_iinc (v := (1)) (lv' := fun y22 => [(3, .int y22), (0, .ref 60), (1, .ref 7), (2, .int a1)]) (by decide) rfl (by decide) (fun _ => rfl) (fun y22 hy22 => ?_)
            have ty22 := i_addT hy22.symm
            clear hy22
            refine wa_goto o_X9_takeAtom_10 (by decide) ?_
            refine wa_pick [1, 2, 3, 0] rfl ?_
            exact ih4 _ (by ((try simp only [vp_in_iff, Int32.lt_iff_toInt_lt, Int32.le_iff_toInt_le, ← Int32.toInt_inj, Int32.reduceToInt, n_1, n_2, n_8, Int32.toNatClampNeg, Int64.lt_iff_toInt_lt, Int64.le_iff_toInt_le, ← Int64.toInt_inj, Int64.reduceToInt, Int32.toInt_toInt64, lg_cmp_ge, lg_cmp_le, lg_cmp_gt, lg_cmp_lt, lg_cmp_eq, Bool.false_eq_true, Bool.true_eq_false, reduceCtorEq, false_iff, true_iff, iff_true, iff_false, and_true, true_and, and_false, false_and, reduceIte, ite_true, ite_false, eq_self] at *)) <;> omega) _ _ ⟨Fs20, ((Sm.gi fs20 12 (Or.inl (by decide))).trans (khi5_0)), ((Sm.gi fs20 11 (Or.inl (by decide))).trans (khi5_1)), (by ((try simp only [vp_in_iff, Int32.lt_iff_toInt_lt, Int32.le_iff_toInt_le, ← Int32.toInt_inj, Int32.reduceToInt, n_1, n_2, n_8, Int32.toNatClampNeg, Int64.lt_iff_toInt_lt, Int64.le_iff_toInt_le, ← Int64.toInt_inj, Int64.reduceToInt, Int32.toInt_toInt64, lg_cmp_ge, lg_cmp_le, lg_cmp_gt, lg_cmp_lt, lg_cmp_eq, Bool.false_eq_true, Bool.true_eq_false, reduceCtorEq, false_iff, true_iff, iff_true, iff_false, and_true, true_and, and_false, false_and, reduceIte, ite_true, ite_false, eq_self] at *)) <;> omega), trivial⟩ rfl
          · refine wa_ldc2 (v := (-1)) (allW_in (kT_7 _ (List.mem_of_getElem? (i := 160) rfl)) rfl) ?_
            refine wa_goto o_X9_takeAtom_48 (by decide) ?_
            refine wa_Vv (d9 := d - 1) [.int _, .int _, .long _] [] (sp_X9_setRow G (d := d - 1) (by omega) s3 _ _ _) (rfl) rfl rfl (zr (by omega)) mk_X9_setRow ly_60 ml_9_91 (Nat.le_of_ble_eq_true rfl) (fun s23 hs23 => ?_)
            obtain ⟨fs23, -⟩ := hs23
            have Fs23 := Sm.tr Fs3 (Sm.wd fs23 (lo' := 60) (hi' := 62) (by decide) (by decide))
            refine wa_iinc (v := (1)) (lv' := fun y25 => [(3, .int y25), (0, .ref 60), (1, .ref 7), (2, .int a1)]) (by decide) rfl (by decide) (fun _ => rfl) (fun y25 hy25 => ?_)
            have ty25 := i_addT hy25.symm
            clear hy25
            refine wa_goto o_X9_takeAtom_10 (by decide) ?_
            refine wa_pick [1, 2, 3, 0] rfl ?_
            exact ih4 _ (by ((try simp only [vp_in_iff, Int32.lt_iff_toInt_lt, Int32.le_iff_toInt_le, ← Int32.toInt_inj, Int32.reduceToInt, n_1, n_2, n_8, Int32.toNatClampNeg, Int64.lt_iff_toInt_lt, Int64.le_iff_toInt_le, ← Int64.toInt_inj, Int64.reduceToInt, Int32.toInt_toInt64, lg_cmp_ge, lg_cmp_le, lg_cmp_gt, lg_cmp_lt, lg_cmp_eq, Bool.false_eq_true, Bool.true_eq_false, reduceCtorEq, false_iff, true_iff, iff_true, iff_false, and_true, true_and, and_false, false_and, reduceIte, ite_true, ite_false, eq_self] at *)) <;> omega) _ _ ⟨Fs23, ((Sm.gi fs23 12 (Or.inl (by decide))).trans (khi5_0)), ((Sm.gi fs23 11 (Or.inl (by decide))).trans (khi5_1)), (by ((try simp only [vp_in_iff, Int32.lt_iff_toInt_lt, Int32.le_iff_toInt_le, ← Int32.toInt_inj, Int32.reduceToInt, n_1, n_2, n_8, Int32.toNatClampNeg, Int64.lt_iff_toInt_lt, Int64.le_iff_toInt_le, ← Int64.toInt_inj, Int64.reduceToInt, Int32.toInt_toInt64, lg_cmp_ge, lg_cmp_le, lg_cmp_gt, lg_cmp_lt, lg_cmp_eq, Bool.false_eq_true, Bool.true_eq_false, reduceCtorEq, false_iff, true_iff, iff_true, iff_false, and_true, true_and, and_false, false_and, reduceIte, ite_true, ite_false, eq_self] at *)) <;> omega), trivial⟩ rfl
        · refine wa_aload_n (i := 1) rfl rfl ?_
          refine wa_iload_n (i := 2) rfl rfl ?_
          refine wa_iload_n (i := 3) rfl rfl ?_
          refine wa_Vi (d9 := d - 1) [.int _, .int _] [.int l3, .int (gi σ 60 11), .ref 60] (sp_X2_pooled G (d := d - 1) (by omega) s3 _ _) (rfl) rfl rfl (zr (by omega)) mk_X2_pooled ly_7 ml_9_86 (Nat.le_of_ble_eq_true rfl) (fun x27 s26 hs26 => ?_)
          obtain ⟨zs26, -⟩ := pI hs26
          subst zs26
          refine wa_i2l ?_
          refine wa_goto o_X9_takeAtom_48 (by decide) ?_
          refine wa_Vv (d9 := d - 1) [.int _, .int _, .long _] [] (sp_X9_setRow G (d := d - 1) (by omega) s3 _ _ _) (rfl) rfl rfl (zr (by omega)) mk_X9_setRow ly_60 ml_9_91 (Nat.le_of_ble_eq_true rfl) (fun s28 hs28 => ?_)
          obtain ⟨fs28, -⟩ := hs28
          have Fs28 := Sm.tr Fs3 (Sm.wd fs28 (lo' := 60) (hi' := 62) (by decide) (by decide))
          refine wa_iinc (v := (1)) (lv' := fun y30 => [(3, .int y30), (0, .ref 60), (1, .ref 7), (2, .int a1)]) (by decide) rfl (by decide) (fun _ => rfl) (fun y30 hy30 => ?_)
          have ty30 := i_addT hy30.symm
          clear hy30
          refine wa_goto o_X9_takeAtom_10 (by decide) ?_
          refine wa_pick [1, 2, 3, 0] rfl ?_
          exact ih4 _ (by ((try simp only [vp_in_iff, Int32.lt_iff_toInt_lt, Int32.le_iff_toInt_le, ← Int32.toInt_inj, Int32.reduceToInt, n_1, n_2, n_8, Int32.toNatClampNeg, Int64.lt_iff_toInt_lt, Int64.le_iff_toInt_le, ← Int64.toInt_inj, Int64.reduceToInt, Int32.toInt_toInt64, lg_cmp_ge, lg_cmp_le, lg_cmp_gt, lg_cmp_lt, lg_cmp_eq, Bool.false_eq_true, Bool.true_eq_false, reduceCtorEq, false_iff, true_iff, iff_true, iff_false, and_true, true_and, and_false, false_and, reduceIte, ite_true, ite_false, eq_self] at *)) <;> omega) _ _ ⟨Fs28, ((Sm.gi fs28 12 (Or.inl (by decide))).trans (khi5_0)), ((Sm.gi fs28 11 (Or.inl (by decide))).trans (khi5_1)), (by ((try simp only [vp_in_iff, Int32.lt_iff_toInt_lt, Int32.le_iff_toInt_le, ← Int32.toInt_inj, Int32.reduceToInt, n_1, n_2, n_8, Int32.toNatClampNeg, Int64.lt_iff_toInt_lt, Int64.le_iff_toInt_le, ← Int64.toInt_inj, Int64.reduceToInt, Int32.toInt_toInt64, lg_cmp_ge, lg_cmp_le, lg_cmp_gt, lg_cmp_lt, lg_cmp_eq, Bool.false_eq_true, Bool.true_eq_false, reduceCtorEq, false_iff, true_iff, iff_true, iff_false, and_true, true_and, and_false, false_and, reduceIte, ite_true, ite_false, eq_self] at *)) <;> omega), trivial⟩ rfl
  exact hi5 _ _ _ ⟨Fs1, (Sm.gi fs1 12 (Or.inl (by decide))), (Sm.gi fs1 11 (Or.inl (by decide))), (by ((try simp only [vp_in_iff, Int32.lt_iff_toInt_lt, Int32.le_iff_toInt_le, ← Int32.toInt_inj, Int32.reduceToInt, n_1, n_2, n_8, Int32.toNatClampNeg, Int64.lt_iff_toInt_lt, Int64.le_iff_toInt_le, ← Int64.toInt_inj, Int64.reduceToInt, Int32.toInt_toInt64, lg_cmp_ge, lg_cmp_le, lg_cmp_gt, lg_cmp_lt, lg_cmp_eq, Bool.false_eq_true, Bool.true_eq_false, reduceCtorEq, false_iff, true_iff, iff_true, iff_false, and_true, true_and, and_false, false_and, reduceIte, ite_true, ite_false, eq_self] at *)) <;> omega), trivial⟩ rfl
set_option maxHeartbeats 4000000 in
theorem sp_X9_load (G : kG9) {d : Nat} (hd : 3 ≤ d) (σ : St) (r1 : 0 ≤ (gi σ 60 12).toInt ∧ (gi σ 60 12).toInt ≤ 4) : Ct G M_X9_load d [.ref 60, .ref 7, .ref 29] σ (fun r σ' => ∃ x : Bool, r = some (.int (bI x)) ∧ Sm 60 63 σ σ' ∧ (0 ≤ (gi σ' 60 12).toInt ∧ (gi σ' 60 12).toInt ≤ 4) ∧ True) := by
  refine wa_start (by decide) rfl (Nat.le_of_ble_eq_true rfl) (lv := [(0, .ref 60), (1, .ref 7), (2, .ref 29)]) rfl o_X9_load_0 rfl ?_
  refine wa_aload_n (i := 0) rfl rfl ?_
  refine wa_iconst (v := 0) (by decide) ?_
  refine wa_puti ck_9 fl_9_44 ly_60 (fun s1 hs1 => ?_)
  have Fs1 : Sm 60 63 σ s1 := by rw [hs1]; exact Sm.si (Sm.rf 60 63 σ) _ _ (by decide) (by decide)
  refine wa_aload_n (i := 0) rfl rfl ?_
  refine wa_iconst (v := 0) (by decide) ?_
  refine wa_iconst (v := 4) (by decide) ?_
  refine wa_aload_n (i := 1) rfl rfl ?_
  refine wa_geti ck_2 fl_9_48 ly_7 ?_
  refine wa_rw (nxq_gi_si hs1 (by decide)) ?_
  refine wa_minI zs (allW_in (kT_7 _ (List.mem_of_getElem? (i := 143) rfl)) rfl) (Nat.le_of_ble_eq_true rfl) ?_
  refine wa_top (fun v2 hv2 => ?_)
  have tv2 := i_minI hv2
  clear hv2
  refine wa_maxI zs (allW_in (kT_7 _ (List.mem_of_getElem? (i := 144) rfl)) rfl) (Nat.le_of_ble_eq_true rfl) ?_
  refine wa_top (fun v3 hv3 => ?_)
  have tv3 := i_maxI hv3
  clear hv3
  refine wa_puti ck_9 fl_9_62 ly_60 (fun s4 hs4 => ?_)
  have Fs4 : Sm 60 63 σ s4 := by rw [hs4]; exact Sm.si Fs1 _ _ (by decide) (by decide)
  refine wa_iconst (v := 0) (by decide) ?_
  refine wa_istore_nD (lv' := [(3, .int 0), (0, .ref 60), (1, .ref 7), (2, .ref 29)]) (i := 3) rfl (by decide) rfl ?_
  refine wa_pick [1, 2, 3, 0] rfl ?_
  have hi7 : ∀ (n9_23 : Nat) (l3 : Int32) (s5 : St), ((Sm 60 63 σ s5) ∧ (gi s5 60 12 = v3) ∧ (gi s5 7 10 = gi σ 7 10) ∧ (gi s5 7 11 = gi σ 7 11) ∧ (gi s5 7 13 = gi σ 7 13) ∧ (0 ≤ l3.toInt) ∧ (True)) → (2147483647 - l3.toInt).toNat = n9_23 → WA G M_X9_load (ZM G M_X9_load d (fun r σ' => ∃ x : Bool, r = some (.int (bI x)) ∧ Sm 60 63 σ σ' ∧ (0 ≤ (gi σ' 60 12).toInt ∧ (gi σ' 60 12).toInt ≤ 4) ∧ True)) B_X9_load_23 [(0, .ref 60), (1, .ref 7), (2, .ref 29), (3, .int l3)] [] s5 := by
    intro n9_23
    induction n9_23 using Nat.strongRecOn with
    | _ n9_23 ih6 =>
      intro l3 s5 i9 m9_23
      obtain ⟨Fs5, khi7_0, khi7_1, khi7_2, khi7_3, jhi7_0, -⟩ := i9
      have ul3 := Int32.toInt_lt l3
      have wl3 := Int32.le_toInt l3
      refine wa_iload_n (i := 3) rfl rfl ?_
      refine wa_iconst (v := 4) (by decide) ?_
      refine wa_icmp_ge o_X9_load_49 (by decide) (fun h8 => ?_) (fun h8 => ?_)
      · refine wa_aload_n (i := 0) rfl rfl ?_
        refine wa_aload_n (i := 2) rfl rfl ?_
        refine wa_alen ly_29 (by decide) ?_
        refine wa_rw (show Int32.ofNat 5 = 5 from rfl) ?_
        refine wa_iconst (v := 4) (by decide) ?_
        refine wa_icmp_le o_X9_load_62 (by decide) (fun h9 => ?_) (fun h9 => ?_)
        · refine wa_lconst (v := 0) (by decide) ?_
          refine wa_putl ck_9 fl_9_63 ly_60 (fun s10 hs10 => ?_)
          have Fs10 : Sm 60 63 σ s10 := by rw [hs10]; exact Sm.sl Fs5 _ _ (by decide) (by decide)
          refine wa_iconst (v := 1) (by decide) ?_
          refine wa_istore_nD (lv' := [(3, .int (bI true)), (0, .ref 60), (1, .ref 7), (2, .ref 29)]) (i := 3) rfl (by decide) rfl ?_
          refine wa_iconst (v := 0) (by decide) ?_
          refine wa_istoreD (lv' := [(4, .int 0), (3, .int (bI true)), (0, .ref 60), (1, .ref 7), (2, .ref 29)]) (by decide) rfl ?_
          refine wa_pick [2, 3, 1, 0] rfl ?_
          have hi13 : ∀ (n9_71 : Nat) (l3 : Bool) (l4 : Int32) (s11 : St), ((Sm 60 63 σ s11) ∧ (gi s11 7 10 = gi σ 7 10) ∧ (gi s11 7 11 = gi σ 7 11) ∧ (gi s11 7 13 = gi σ 7 13) ∧ (0 ≤ l4.toInt) ∧ (0 ≤ (gi s11 60 12).toInt ∧ (gi s11 60 12).toInt ≤ 4) ∧ (True)) → (2147483647 - l4.toInt).toNat = n9_71 → WA G M_X9_load (ZM G M_X9_load d (fun r σ' => ∃ x : Bool, r = some (.int (bI x)) ∧ Sm 60 63 σ σ' ∧ (0 ≤ (gi σ' 60 12).toInt ∧ (gi σ' 60 12).toInt ≤ 4) ∧ True)) B_X9_load_71 [(0, .ref 60), (1, .ref 7), (3, .int (bI l3)), (4, .int l4)] [] s11 := by
            intro n9_71
            induction n9_71 using Nat.strongRecOn with
            | _ n9_71 ih12 =>
              intro l3 l4 s11 i9 m9_71
              obtain ⟨Fs11, khi13_0, khi13_1, khi13_2, jhi13_0, jhi13_1, -⟩ := i9
              have ul4 := Int32.toInt_lt l4
              have wl4 := Int32.le_toInt l4
              refine wa_iload rfl ?_
              refine wa_aload_n (i := 1) rfl rfl ?_
              refine wa_geti ck_2 fl_9_66 ly_7 ?_
              refine wa_rw (khi13_1) ?_
              refine wa_icmp_ge o_X9_load_178 (by decide) (fun h14 => ?_) (fun h14 => ?_)
              · refine wa_iload_n (i := 3) rfl rfl ?_
                refine wa_zreturn l3 (rfl) rfl rfl ?_
                exact ⟨_, rfl, Fs11, (by first | assumption | (((try simp only [vp_in_iff, Int32.lt_iff_toInt_lt, Int32.le_iff_toInt_le, ← Int32.toInt_inj, Int32.reduceToInt, n_1, n_2, n_8, Int32.toNatClampNeg, Int64.lt_iff_toInt_lt, Int64.le_iff_toInt_le, ← Int64.toInt_inj, Int64.reduceToInt, Int32.toInt_toInt64, lg_cmp_ge, lg_cmp_le, lg_cmp_gt, lg_cmp_lt, lg_cmp_eq, Bool.false_eq_true, Bool.true_eq_false, reduceCtorEq, false_iff, true_iff, iff_true, iff_false, and_true, true_and, and_false, false_and, reduceIte, ite_true, ite_false, eq_self] at *)) <;> omega)), trivial⟩
              · have mh14 := nle_mx h14
                refine wa_aload_n (i := 1) rfl rfl ?_
                refine wa_geti ck_2 fl_9_69 ly_7 ?_
                refine wa_rw (khi13_2) ?_
                refine wa_iload rfl ?_
                refine wa_iushr ?_
                refine wa_top (fun v15 hv15 => ?_)
                clear hv15
                refine wa_iconst (v := 1) (by decide) ?_
                refine wa_iand ?_
                refine wa_top (fun v16 hv16 => ?_)
                have tv16 := i_andT hv16
                clear hv16
                refine wa_iconst (v := 1) (by decide) ?_
                refine wa_icmp_ne o_X9_load_103 (by decide) (fun h17 => ?_) (fun h17 => ?_)
                · refine wa_iconst (v := 0) (by decide) ?_
                  refine wa_istoreD (lv' := [(5, .int 0), (0, .ref 60), (1, .ref 7), (3, .int (bI l3)), (4, .int l4)]) (by decide) rfl ?_
                  refine wa_iconst (v := 0) (by decide) ?_
                  refine wa_istoreD (lv' := [(6, .int 0), (5, .int 0), (0, .ref 60), (1, .ref 7), (3, .int (bI l3)), (4, .int l4)]) (by decide) rfl ?_
                  refine wa_pick [2, 3, 4, 5, 1, 0] rfl ?_
                  have hi20 : ∀ (n9_109 : Nat) (l3 : Bool) (l6 : Int32) (s18 : St), ((Sm 60 63 σ s18) ∧ (gi s18 7 10 = gi σ 7 10) ∧ (gi s18 7 11 = gi σ 7 11) ∧ (gi s18 7 13 = gi σ 7 13) ∧ (0 ≤ l6.toInt) ∧ (0 ≤ (gi s18 60 12).toInt ∧ (gi s18 60 12).toInt ≤ 4) ∧ (True)) → (2147483647 - l6.toInt).toNat = n9_109 → WA G M_X9_load (ZM G M_X9_load d (fun r σ' => ∃ x : Bool, r = some (.int (bI x)) ∧ Sm 60 63 σ σ' ∧ (0 ≤ (gi σ' 60 12).toInt ∧ (gi σ' 60 12).toInt ≤ 4) ∧ True)) B_X9_load_109 [(0, .ref 60), (1, .ref 7), (3, .int (bI l3)), (4, .int l4), (5, .int 0), (6, .int l6)] [] s18 := by
                    intro n9_109
                    induction n9_109 using Nat.strongRecOn with
                    | _ n9_109 ih19 =>
                      intro l3 l6 s18 i9 m9_109
                      obtain ⟨Fs18, khi20_0, khi20_1, khi20_2, jhi20_0, jhi20_1, -⟩ := i9
                      have ul6 := Int32.toInt_lt l6
                      have wl6 := Int32.le_toInt l6
                      refine wa_iload rfl ?_
                      refine wa_iload rfl ?_
                      refine wa_icmp_ge o_X9_load_138 (by decide) (fun h21 => ?_) (fun h21 => ?_)
                      · refine wa_aload_n (i := 1) rfl rfl ?_
                        refine wa_geti ck_2 fl_9_69 ly_7 ?_
                        refine wa_rw (khi20_2) ?_
                        refine wa_iload rfl ?_
                        refine wa_iushr ?_
                        refine wa_top (fun v22 hv22 => ?_)
                        clear hv22
                        refine wa_iconst (v := 1) (by decide) ?_
                        refine wa_iand ?_
                        refine wa_top (fun v23 hv23 => ?_)
                        have tv23 := i_andT hv23
                        clear hv23
                        refine wa_iconst (v := 1) (by decide) ?_
                        refine wa_icmp_ne o_X9_load_172 (by decide) (fun h24 => ?_) (fun h24 => ?_)
                        · refine wa_iinc (v := (1)) (lv' := fun y25 => [(4, .int y25), (0, .ref 60), (1, .ref 7), (3, .int (bI l3)), (5, .int 0), (6, .int l6)]) (by decide) rfl (by decide) (fun _ => rfl) (fun y25 hy25 => ?_)
                          have ty25 := i_addT hy25.symm
                          clear hy25
                          refine wa_goto o_X9_load_71 (by decide) ?_
                          refine wa_pick [1, 2, 3, 0] rfl ?_
                          exact ih12 _ (by ((try simp only [vp_in_iff, Int32.lt_iff_toInt_lt, Int32.le_iff_toInt_le, ← Int32.toInt_inj, Int32.reduceToInt, n_1, n_2, n_8, Int32.toNatClampNeg, Int64.lt_iff_toInt_lt, Int64.le_iff_toInt_le, ← Int64.toInt_inj, Int64.reduceToInt, Int32.toInt_toInt64, lg_cmp_ge, lg_cmp_le, lg_cmp_gt, lg_cmp_lt, lg_cmp_eq, Bool.false_eq_true, Bool.true_eq_false, reduceCtorEq, false_iff, true_iff, iff_true, iff_false, and_true, true_and, and_false, false_and, reduceIte, ite_true, ite_false, eq_self] at *)) <;> omega) _ _ _ ⟨Fs18, (khi20_0), (khi20_1), (khi20_2), (by ((try simp only [vp_in_iff, Int32.lt_iff_toInt_lt, Int32.le_iff_toInt_le, ← Int32.toInt_inj, Int32.reduceToInt, n_1, n_2, n_8, Int32.toNatClampNeg, Int64.lt_iff_toInt_lt, Int64.le_iff_toInt_le, ← Int64.toInt_inj, Int64.reduceToInt, Int32.toInt_toInt64, lg_cmp_ge, lg_cmp_le, lg_cmp_gt, lg_cmp_lt, lg_cmp_eq, Bool.false_eq_true, Bool.true_eq_false, reduceCtorEq, false_iff, true_iff, iff_true, iff_false, and_true, true_and, and_false, false_and, reduceIte, ite_true, ite_false, eq_self] at *)) <;> omega), (by first | assumption | (((try simp only [vp_in_iff, Int32.lt_iff_toInt_lt, Int32.le_iff_toInt_le, ← Int32.toInt_inj, Int32.reduceToInt, n_1, n_2, n_8, Int32.toNatClampNeg, Int64.lt_iff_toInt_lt, Int64.le_iff_toInt_le, ← Int64.toInt_inj, Int64.reduceToInt, Int32.toInt_toInt64, lg_cmp_ge, lg_cmp_le, lg_cmp_gt, lg_cmp_lt, lg_cmp_eq, Bool.false_eq_true, Bool.true_eq_false, reduceCtorEq, false_iff, true_iff, iff_true, iff_false, and_true, true_and, and_false, false_and, reduceIte, ite_true, ite_false, eq_self] at *)) <;> omega)), trivial⟩ rfl
                        · refine wa_aload_n (i := 1) rfl rfl ?_
                          refine wa_iload rfl ?_
                          refine wa_bipush (v := 6) (by decide) ?_
                          refine wa_Vi (d9 := d - 1) [.int _, .int _] [] (sp_X2_fact G (d := d - 1) (by omega) s18 _ _) (rfl) rfl rfl (zr (by omega)) mk_X2_fact ly_7 ml_9_72 (Nat.le_of_ble_eq_true rfl) (fun x27 s26 hs26 => ?_)
                          obtain ⟨zs26, -⟩ := pI hs26
                          subst zs26
                          refine wa_iconst (v := 1) (by decide) ?_
                          refine wa_icmp_ne o_X9_load_172 (by decide) (fun h28 => ?_) (fun h28 => ?_)
                          · refine wa_iinc (v := (1)) (lv' := fun y29 => [(4, .int y29), (0, .ref 60), (1, .ref 7), (3, .int (bI l3)), (5, .int 0), (6, .int l6)]) (by decide) rfl (by decide) (fun _ => rfl) (fun y29 hy29 => ?_)
                            have ty29 := i_addT hy29.symm
                            clear hy29
                            refine wa_goto o_X9_load_71 (by decide) ?_
                            refine wa_pick [1, 2, 3, 0] rfl ?_
                            exact ih12 _ (by ((try simp only [vp_in_iff, Int32.lt_iff_toInt_lt, Int32.le_iff_toInt_le, ← Int32.toInt_inj, Int32.reduceToInt, n_1, n_2, n_8, Int32.toNatClampNeg, Int64.lt_iff_toInt_lt, Int64.le_iff_toInt_le, ← Int64.toInt_inj, Int64.reduceToInt, Int32.toInt_toInt64, lg_cmp_ge, lg_cmp_le, lg_cmp_gt, lg_cmp_lt, lg_cmp_eq, Bool.false_eq_true, Bool.true_eq_false, reduceCtorEq, false_iff, true_iff, iff_true, iff_false, and_true, true_and, and_false, false_and, reduceIte, ite_true, ite_false, eq_self] at *)) <;> omega) _ _ _ ⟨Fs18, (khi20_0), (khi20_1), (khi20_2), (by ((try simp only [vp_in_iff, Int32.lt_iff_toInt_lt, Int32.le_iff_toInt_le, ← Int32.toInt_inj, Int32.reduceToInt, n_1, n_2, n_8, Int32.toNatClampNeg, Int64.lt_iff_toInt_lt, Int64.le_iff_toInt_le, ← Int64.toInt_inj, Int64.reduceToInt, Int32.toInt_toInt64, lg_cmp_ge, lg_cmp_le, lg_cmp_gt, lg_cmp_lt, lg_cmp_eq, Bool.false_eq_true, Bool.true_eq_false, reduceCtorEq, false_iff, true_iff, iff_true, iff_false, and_true, true_and, and_false, false_and, reduceIte, ite_true, ite_false, eq_self] at *)) <;> omega), (by first | assumption | (((try simp only [vp_in_iff, Int32.lt_iff_toInt_lt, Int32.le_iff_toInt_le, ← Int32.toInt_inj, Int32.reduceToInt, n_1, n_2, n_8, Int32.toNatClampNeg, Int64.lt_iff_toInt_lt, Int64.le_iff_toInt_le, ← Int64.toInt_inj, Int64.reduceToInt, Int32.toInt_toInt64, lg_cmp_ge, lg_cmp_le, lg_cmp_gt, lg_cmp_lt, lg_cmp_eq, Bool.false_eq_true, Bool.true_eq_false, reduceCtorEq, false_iff, true_iff, iff_true, iff_false, and_true, true_and, and_false, false_and, reduceIte, ite_true, ite_false, eq_self] at *)) <;> omega)), trivial⟩ rfl
                          · refine wa_iload_n (i := 3) rfl rfl ?_
                            refine wa_aload_n (i := 0) rfl rfl ?_
                            refine wa_aload_n (i := 1) rfl rfl ?_
                            refine wa_iconst (v := (-1)) (by decide) ?_
                            refine wa_Vi (d9 := d - 1) [.ref 7, .int _] [.int (bI l3)] (sp_X9_takeAtom G (d := d - 1) (by omega) s18 _ (by first | assumption | exact Or.inl rfl | exact Or.inr rfl | (((try simp only [vp_in_iff, Int32.lt_iff_toInt_lt, Int32.le_iff_toInt_le, ← Int32.toInt_inj, Int32.reduceToInt, n_1, n_2, n_8, Int32.toNatClampNeg, Int64.lt_iff_toInt_lt, Int64.le_iff_toInt_le, ← Int64.toInt_inj, Int64.reduceToInt, Int32.toInt_toInt64, lg_cmp_ge, lg_cmp_le, lg_cmp_gt, lg_cmp_lt, lg_cmp_eq, Bool.false_eq_true, Bool.true_eq_false, reduceCtorEq, false_iff, true_iff, iff_true, iff_false, and_true, true_and, and_false, false_and, reduceIte, ite_true, ite_false, eq_self] at *)) <;> omega))) (rfl) rfl rfl (zr (by omega)) mk_X9_takeAtom ly_60 ml_9_78 (Nat.le_of_ble_eq_true rfl) (fun x31 s30 hs30 => ?_)
                            obtain ⟨bx31, ex31, fs30, cx31_1, -⟩ := pB hs30
                            subst ex31
                            have Fs30 := Sm.tr Fs18 (Sm.wd fs30 (lo' := 60) (hi' := 63) (by decide) (by decide))
                            refine wa_iand ?_
                            refine wa_rw (bI_and (a := l3) (b := bx31) rfl rfl) ?_
                            refine wa_istore_nD (lv' := [(3, .int (bI (l3 && bx31))), (0, .ref 60), (1, .ref 7), (4, .int l4), (5, .int 0), (6, .int l6)]) (i := 3) rfl (by decide) rfl ?_
                            refine wa_iinc (v := (1)) (lv' := fun y32 => [(4, .int y32), (3, .int (bI (l3 && bx31))), (0, .ref 60), (1, .ref 7), (5, .int 0), (6, .int l6)]) (by decide) rfl (by decide) (fun _ => rfl) (fun y32 hy32 => ?_)
                            have ty32 := i_addT hy32.symm
                            clear hy32
                            refine wa_goto o_X9_load_71 (by decide) ?_
                            refine wa_pick [2, 3, 1, 0] rfl ?_
                            exact ih12 _ (by ((try simp only [vp_in_iff, Int32.lt_iff_toInt_lt, Int32.le_iff_toInt_le, ← Int32.toInt_inj, Int32.reduceToInt, n_1, n_2, n_8, Int32.toNatClampNeg, Int64.lt_iff_toInt_lt, Int64.le_iff_toInt_le, ← Int64.toInt_inj, Int64.reduceToInt, Int32.toInt_toInt64, lg_cmp_ge, lg_cmp_le, lg_cmp_gt, lg_cmp_lt, lg_cmp_eq, Bool.false_eq_true, Bool.true_eq_false, reduceCtorEq, false_iff, true_iff, iff_true, iff_false, and_true, true_and, and_false, false_and, reduceIte, ite_true, ite_false, eq_self] at *)) <;> omega) _ _ _ ⟨Fs30, ((Sm.gi fs30 10 (Or.inl (by decide))).trans (khi20_0)), ((Sm.gi fs30 11 (Or.inl (by decide))).trans (khi20_1)), ((Sm.gi fs30 13 (Or.inl (by decide))).trans (khi20_2)), (by ((try simp only [vp_in_iff, Int32.lt_iff_toInt_lt, Int32.le_iff_toInt_le, ← Int32.toInt_inj, Int32.reduceToInt, n_1, n_2, n_8, Int32.toNatClampNeg, Int64.lt_iff_toInt_lt, Int64.le_iff_toInt_le, ← Int64.toInt_inj, Int64.reduceToInt, Int32.toInt_toInt64, lg_cmp_ge, lg_cmp_le, lg_cmp_gt, lg_cmp_lt, lg_cmp_eq, Bool.false_eq_true, Bool.true_eq_false, reduceCtorEq, false_iff, true_iff, iff_true, iff_false, and_true, true_and, and_false, false_and, reduceIte, ite_true, ite_false, eq_self] at *)) <;> omega), (by first | assumption | (((try simp only [vp_in_iff, Int32.lt_iff_toInt_lt, Int32.le_iff_toInt_le, ← Int32.toInt_inj, Int32.reduceToInt, n_1, n_2, n_8, Int32.toNatClampNeg, Int64.lt_iff_toInt_lt, Int64.le_iff_toInt_le, ← Int64.toInt_inj, Int64.reduceToInt, Int32.toInt_toInt64, lg_cmp_ge, lg_cmp_le, lg_cmp_gt, lg_cmp_lt, lg_cmp_eq, Bool.false_eq_true, Bool.true_eq_false, reduceCtorEq, false_iff, true_iff, iff_true, iff_false, and_true, true_and, and_false, false_and, reduceIte, ite_true, ite_false, eq_self] at *)) <;> omega)), trivial⟩ rfl
                      · have mh21 := nle_mx h21
                        refine wa_iload_n (i := 3) rfl rfl ?_
                        refine wa_aload_n (i := 0) rfl rfl ?_
                        refine wa_aload_n (i := 1) rfl rfl ?_
                        refine wa_aload_n (i := 1) rfl rfl ?_
                        refine wa_iload rfl ?_
                        refine wa_iload rfl ?_
                        refine wa_Vi (d9 := d - 1) [.int _, .int _] [.ref 7, .ref 60, .int (bI l3)] (sp_X2_atomOf G (d := d - 1) (by omega) s18 _ _) (rfl) rfl rfl (zr (by omega)) mk_X2_atomOf ly_7 ml_9_75 (Nat.le_of_ble_eq_true rfl) (fun x34 s33 hs33 => ?_)
                        obtain ⟨zs33, -⟩ := pI hs33
                        subst zs33
                        refine wa_Vi (d9 := d - 1) [.ref 7, .int _] [.int (bI l3)] (sp_X9_takeAtom G (d := d - 1) (by omega) s18 _ (by first | assumption | exact Or.inl rfl | exact Or.inr rfl | (((try simp only [vp_in_iff, Int32.lt_iff_toInt_lt, Int32.le_iff_toInt_le, ← Int32.toInt_inj, Int32.reduceToInt, n_1, n_2, n_8, Int32.toNatClampNeg, Int64.lt_iff_toInt_lt, Int64.le_iff_toInt_le, ← Int64.toInt_inj, Int64.reduceToInt, Int32.toInt_toInt64, lg_cmp_ge, lg_cmp_le, lg_cmp_gt, lg_cmp_lt, lg_cmp_eq, Bool.false_eq_true, Bool.true_eq_false, reduceCtorEq, false_iff, true_iff, iff_true, iff_false, and_true, true_and, and_false, false_and, reduceIte, ite_true, ite_false, eq_self] at *)) <;> omega))) (rfl) rfl rfl (zr (by omega)) mk_X9_takeAtom ly_60 ml_9_78 (Nat.le_of_ble_eq_true rfl) (fun x36 s35 hs35 => ?_)
                        obtain ⟨bx36, ex36, fs35, cx36_1, -⟩ := pB hs35
                        subst ex36
                        have Fs35 := Sm.tr Fs18 (Sm.wd fs35 (lo' := 60) (hi' := 63) (by decide) (by decide))
                        refine wa_iand ?_
                        refine wa_rw (bI_and (a := l3) (b := bx36) rfl rfl) ?_
                        refine wa_istore_nD (lv' := [(3, .int (bI (l3 && bx36))), (0, .ref 60), (1, .ref 7), (4, .int l4), (5, .int 0), (6, .int l6)]) (i := 3) rfl (by decide) rfl ?_
                        refine wa_iinc (v := (1)) (lv' := fun y37 => [(6, .int y37), (3, .int (bI (l3 && bx36))), (0, .ref 60), (1, .ref 7), (4, .int l4), (5, .int 0)]) (by decide) rfl (by decide) (fun _ => rfl) (fun y37 hy37 => ?_)
                        have ty37 := i_addT hy37.symm
                        clear hy37
                        refine wa_goto o_X9_load_109 (by decide) ?_
                        refine wa_pick [2, 3, 1, 4, 5, 0] rfl ?_
                        exact ih19 _ (by ((try simp only [vp_in_iff, Int32.lt_iff_toInt_lt, Int32.le_iff_toInt_le, ← Int32.toInt_inj, Int32.reduceToInt, n_1, n_2, n_8, Int32.toNatClampNeg, Int64.lt_iff_toInt_lt, Int64.le_iff_toInt_le, ← Int64.toInt_inj, Int64.reduceToInt, Int32.toInt_toInt64, lg_cmp_ge, lg_cmp_le, lg_cmp_gt, lg_cmp_lt, lg_cmp_eq, Bool.false_eq_true, Bool.true_eq_false, reduceCtorEq, false_iff, true_iff, iff_true, iff_false, and_true, true_and, and_false, false_and, reduceIte, ite_true, ite_false, eq_self] at *)) <;> omega) _ _ _ ⟨Fs35, ((Sm.gi fs35 10 (Or.inl (by decide))).trans (khi20_0)), ((Sm.gi fs35 11 (Or.inl (by decide))).trans (khi20_1)), ((Sm.gi fs35 13 (Or.inl (by decide))).trans (khi20_2)), (by ((try simp only [vp_in_iff, Int32.lt_iff_toInt_lt, Int32.le_iff_toInt_le, ← Int32.toInt_inj, Int32.reduceToInt, n_1, n_2, n_8, Int32.toNatClampNeg, Int64.lt_iff_toInt_lt, Int64.le_iff_toInt_le, ← Int64.toInt_inj, Int64.reduceToInt, Int32.toInt_toInt64, lg_cmp_ge, lg_cmp_le, lg_cmp_gt, lg_cmp_lt, lg_cmp_eq, Bool.false_eq_true, Bool.true_eq_false, reduceCtorEq, false_iff, true_iff, iff_true, iff_false, and_true, true_and, and_false, false_and, reduceIte, ite_true, ite_false, eq_self] at *)) <;> omega), (by first | assumption | (((try simp only [vp_in_iff, Int32.lt_iff_toInt_lt, Int32.le_iff_toInt_le, ← Int32.toInt_inj, Int32.reduceToInt, n_1, n_2, n_8, Int32.toNatClampNeg, Int64.lt_iff_toInt_lt, Int64.le_iff_toInt_le, ← Int64.toInt_inj, Int64.reduceToInt, Int32.toInt_toInt64, lg_cmp_ge, lg_cmp_le, lg_cmp_gt, lg_cmp_lt, lg_cmp_eq, Bool.false_eq_true, Bool.true_eq_false, reduceCtorEq, false_iff, true_iff, iff_true, iff_false, and_true, true_and, and_false, false_and, reduceIte, ite_true, ite_false, eq_self] at *)) <;> omega)), trivial⟩ rfl
                  exact hi20 _ _ _ _ ⟨Fs11, (khi13_0), (khi13_1), (khi13_2), (by ((try simp only [vp_in_iff, Int32.lt_iff_toInt_lt, Int32.le_iff_toInt_le, ← Int32.toInt_inj, Int32.reduceToInt, n_1, n_2, n_8, Int32.toNatClampNeg, Int64.lt_iff_toInt_lt, Int64.le_iff_toInt_le, ← Int64.toInt_inj, Int64.reduceToInt, Int32.toInt_toInt64, lg_cmp_ge, lg_cmp_le, lg_cmp_gt, lg_cmp_lt, lg_cmp_eq, Bool.false_eq_true, Bool.true_eq_false, reduceCtorEq, false_iff, true_iff, iff_true, iff_false, and_true, true_and, and_false, false_and, reduceIte, ite_true, ite_false, eq_self] at *)) <;> omega), (by first | assumption | (((try simp only [vp_in_iff, Int32.lt_iff_toInt_lt, Int32.le_iff_toInt_le, ← Int32.toInt_inj, Int32.reduceToInt, n_1, n_2, n_8, Int32.toNatClampNeg, Int64.lt_iff_toInt_lt, Int64.le_iff_toInt_le, ← Int64.toInt_inj, Int64.reduceToInt, Int32.toInt_toInt64, lg_cmp_ge, lg_cmp_le, lg_cmp_gt, lg_cmp_lt, lg_cmp_eq, Bool.false_eq_true, Bool.true_eq_false, reduceCtorEq, false_iff, true_iff, iff_true, iff_false, and_true, true_and, and_false, false_and, reduceIte, ite_true, ite_false, eq_self] at *)) <;> omega)), trivial⟩ rfl
                · refine wa_aload_n (i := 1) rfl rfl ?_
                  refine wa_iload rfl ?_
                  refine wa_iconst (v := 4) (by decide) ?_
                  refine wa_Vi (d9 := d - 1) [.int _, .int _] [] (sp_X2_fact G (d := d - 1) (by omega) s11 _ _) (rfl) rfl rfl (zr (by omega)) mk_X2_fact ly_7 ml_9_72 (Nat.le_of_ble_eq_true rfl) (fun x39 s38 hs38 => ?_)
                  obtain ⟨zs38, -⟩ := pI hs38
                  subst zs38
                  refine wa_goto o_X9_load_104 (by decide) ?_
                  refine wa_istoreD (lv' := [(5, .int x39), (0, .ref 60), (1, .ref 7), (3, .int (bI l3)), (4, .int l4)]) (by decide) rfl ?_
                  refine wa_iconst (v := 0) (by decide) ?_
                  refine wa_istoreD (lv' := [(6, .int 0), (5, .int x39), (0, .ref 60), (1, .ref 7), (3, .int (bI l3)), (4, .int l4)]) (by decide) rfl ?_
                  refine wa_pick [2, 3, 4, 5, 1, 0] rfl ?_
                  have hi42 : ∀ (n9_109 : Nat) (l3 : Bool) (l6 : Int32) (s40 : St), ((Sm 60 63 σ s40) ∧ (gi s40 7 10 = gi σ 7 10) ∧ (gi s40 7 11 = gi σ 7 11) ∧ (gi s40 7 13 = gi σ 7 13) ∧ (0 ≤ l6.toInt) ∧ (0 ≤ (gi s40 60 12).toInt ∧ (gi s40 60 12).toInt ≤ 4) ∧ (True)) → (2147483647 - l6.toInt).toNat = n9_109 → WA G M_X9_load (ZM G M_X9_load d (fun r σ' => ∃ x : Bool, r = some (.int (bI x)) ∧ Sm 60 63 σ σ' ∧ (0 ≤ (gi σ' 60 12).toInt ∧ (gi σ' 60 12).toInt ≤ 4) ∧ True)) B_X9_load_109 [(0, .ref 60), (1, .ref 7), (3, .int (bI l3)), (4, .int l4), (5, .int x39), (6, .int l6)] [] s40 := by
                    intro n9_109
                    induction n9_109 using Nat.strongRecOn with
                    | _ n9_109 ih41 =>
                      intro l3 l6 s40 i9 m9_109
                      obtain ⟨Fs40, khi42_0, khi42_1, khi42_2, jhi42_0, jhi42_1, -⟩ := i9
                      have ul6 := Int32.toInt_lt l6
                      have wl6 := Int32.le_toInt l6
                      refine wa_iload rfl ?_
                      refine wa_iload rfl ?_
                      refine wa_icmp_ge o_X9_load_138 (by decide) (fun h43 => ?_) (fun h43 => ?_)
                      · refine wa_aload_n (i := 1) rfl rfl ?_
                        refine wa_geti ck_2 fl_9_69 ly_7 ?_
                        refine wa_rw (khi42_2) ?_
                        refine wa_iload rfl ?_
                        refine wa_iushr ?_
                        refine wa_top (fun v44 hv44 => ?_)
                        clear hv44
                        refine wa_iconst (v := 1) (by decide) ?_
                        refine wa_iand ?_
                        refine wa_top (fun v45 hv45 => ?_)
                        have tv45 := i_andT hv45
                        clear hv45
                        refine wa_iconst (v := 1) (by decide) ?_
                        refine wa_icmp_ne o_X9_load_172 (by decide) (fun h46 => ?_) (fun h46 => ?_)
                        · refine wa_iinc (v := (1)) (lv' := fun y47 => [(4, .int y47), (0, .ref 60), (1, .ref 7), (3, .int (bI l3)), (5, .int x39), (6, .int l6)]) (by decide) rfl (by decide) (fun _ => rfl) (fun y47 hy47 => ?_)
                          have ty47 := i_addT hy47.symm
                          clear hy47
                          refine wa_goto o_X9_load_71 (by decide) ?_
                          refine wa_pick [1, 2, 3, 0] rfl ?_
                          exact ih12 _ (by ((try simp only [vp_in_iff, Int32.lt_iff_toInt_lt, Int32.le_iff_toInt_le, ← Int32.toInt_inj, Int32.reduceToInt, n_1, n_2, n_8, Int32.toNatClampNeg, Int64.lt_iff_toInt_lt, Int64.le_iff_toInt_le, ← Int64.toInt_inj, Int64.reduceToInt, Int32.toInt_toInt64, lg_cmp_ge, lg_cmp_le, lg_cmp_gt, lg_cmp_lt, lg_cmp_eq, Bool.false_eq_true, Bool.true_eq_false, reduceCtorEq, false_iff, true_iff, iff_true, iff_false, and_true, true_and, and_false, false_and, reduceIte, ite_true, ite_false, eq_self] at *)) <;> omega) _ _ _ ⟨Fs40, (khi42_0), (khi42_1), (khi42_2), (by ((try simp only [vp_in_iff, Int32.lt_iff_toInt_lt, Int32.le_iff_toInt_le, ← Int32.toInt_inj, Int32.reduceToInt, n_1, n_2, n_8, Int32.toNatClampNeg, Int64.lt_iff_toInt_lt, Int64.le_iff_toInt_le, ← Int64.toInt_inj, Int64.reduceToInt, Int32.toInt_toInt64, lg_cmp_ge, lg_cmp_le, lg_cmp_gt, lg_cmp_lt, lg_cmp_eq, Bool.false_eq_true, Bool.true_eq_false, reduceCtorEq, false_iff, true_iff, iff_true, iff_false, and_true, true_and, and_false, false_and, reduceIte, ite_true, ite_false, eq_self] at *)) <;> omega), (by first | assumption | (((try simp only [vp_in_iff, Int32.lt_iff_toInt_lt, Int32.le_iff_toInt_le, ← Int32.toInt_inj, Int32.reduceToInt, n_1, n_2, n_8, Int32.toNatClampNeg, Int64.lt_iff_toInt_lt, Int64.le_iff_toInt_le, ← Int64.toInt_inj, Int64.reduceToInt, Int32.toInt_toInt64, lg_cmp_ge, lg_cmp_le, lg_cmp_gt, lg_cmp_lt, lg_cmp_eq, Bool.false_eq_true, Bool.true_eq_false, reduceCtorEq, false_iff, true_iff, iff_true, iff_false, and_true, true_and, and_false, false_and, reduceIte, ite_true, ite_false, eq_self] at *)) <;> omega)), trivial⟩ rfl
                        · refine wa_aload_n (i := 1) rfl rfl ?_
                          refine wa_iload rfl ?_
                          refine wa_bipush (v := 6) (by decide) ?_
                          refine wa_Vi (d9 := d - 1) [.int _, .int _] [] (sp_X2_fact G (d := d - 1) (by omega) s40 _ _) (rfl) rfl rfl (zr (by omega)) mk_X2_fact ly_7 ml_9_72 (Nat.le_of_ble_eq_true rfl) (fun x49 s48 hs48 => ?_)
                          obtain ⟨zs48, -⟩ := pI hs48
                          subst zs48
                          refine wa_iconst (v := 1) (by decide) ?_
                          refine wa_icmp_ne o_X9_load_172 (by decide) (fun h50 => ?_) (fun h50 => ?_)
                          · refine wa_iinc (v := (1)) (lv' := fun y51 => [(4, .int y51), (0, .ref 60), (1, .ref 7), (3, .int (bI l3)), (5, .int x39), (6, .int l6)]) (by decide) rfl (by decide) (fun _ => rfl) (fun y51 hy51 => ?_)
                            have ty51 := i_addT hy51.symm
                            clear hy51
                            refine wa_goto o_X9_load_71 (by decide) ?_
                            refine wa_pick [1, 2, 3, 0] rfl ?_
                            exact ih12 _ (by ((try simp only [vp_in_iff, Int32.lt_iff_toInt_lt, Int32.le_iff_toInt_le, ← Int32.toInt_inj, Int32.reduceToInt, n_1, n_2, n_8, Int32.toNatClampNeg, Int64.lt_iff_toInt_lt, Int64.le_iff_toInt_le, ← Int64.toInt_inj, Int64.reduceToInt, Int32.toInt_toInt64, lg_cmp_ge, lg_cmp_le, lg_cmp_gt, lg_cmp_lt, lg_cmp_eq, Bool.false_eq_true, Bool.true_eq_false, reduceCtorEq, false_iff, true_iff, iff_true, iff_false, and_true, true_and, and_false, false_and, reduceIte, ite_true, ite_false, eq_self] at *)) <;> omega) _ _ _ ⟨Fs40, (khi42_0), (khi42_1), (khi42_2), (by ((try simp only [vp_in_iff, Int32.lt_iff_toInt_lt, Int32.le_iff_toInt_le, ← Int32.toInt_inj, Int32.reduceToInt, n_1, n_2, n_8, Int32.toNatClampNeg, Int64.lt_iff_toInt_lt, Int64.le_iff_toInt_le, ← Int64.toInt_inj, Int64.reduceToInt, Int32.toInt_toInt64, lg_cmp_ge, lg_cmp_le, lg_cmp_gt, lg_cmp_lt, lg_cmp_eq, Bool.false_eq_true, Bool.true_eq_false, reduceCtorEq, false_iff, true_iff, iff_true, iff_false, and_true, true_and, and_false, false_and, reduceIte, ite_true, ite_false, eq_self] at *)) <;> omega), (by first | assumption | (((try simp only [vp_in_iff, Int32.lt_iff_toInt_lt, Int32.le_iff_toInt_le, ← Int32.toInt_inj, Int32.reduceToInt, n_1, n_2, n_8, Int32.toNatClampNeg, Int64.lt_iff_toInt_lt, Int64.le_iff_toInt_le, ← Int64.toInt_inj, Int64.reduceToInt, Int32.toInt_toInt64, lg_cmp_ge, lg_cmp_le, lg_cmp_gt, lg_cmp_lt, lg_cmp_eq, Bool.false_eq_true, Bool.true_eq_false, reduceCtorEq, false_iff, true_iff, iff_true, iff_false, and_true, true_and, and_false, false_and, reduceIte, ite_true, ite_false, eq_self] at *)) <;> omega)), trivial⟩ rfl
                          · refine wa_iload_n (i := 3) rfl rfl ?_
                            refine wa_aload_n (i := 0) rfl rfl ?_
                            refine wa_aload_n (i := 1) rfl rfl ?_
                            refine wa_iconst (v := (-1)) (by decide) ?_
                            refine wa_Vi (d9 := d - 1) [.ref 7, .int _] [.int (bI l3)] (sp_X9_takeAtom G (d := d - 1) (by omega) s40 _ (by first | assumption | exact Or.inl rfl | exact Or.inr rfl | (((try simp only [vp_in_iff, Int32.lt_iff_toInt_lt, Int32.le_iff_toInt_le, ← Int32.toInt_inj, Int32.reduceToInt, n_1, n_2, n_8, Int32.toNatClampNeg, Int64.lt_iff_toInt_lt, Int64.le_iff_toInt_le, ← Int64.toInt_inj, Int64.reduceToInt, Int32.toInt_toInt64, lg_cmp_ge, lg_cmp_le, lg_cmp_gt, lg_cmp_lt, lg_cmp_eq, Bool.false_eq_true, Bool.true_eq_false, reduceCtorEq, false_iff, true_iff, iff_true, iff_false, and_true, true_and, and_false, false_and, reduceIte, ite_true, ite_false, eq_self] at *)) <;> omega))) (rfl) rfl rfl (zr (by omega)) mk_X9_takeAtom ly_60 ml_9_78 (Nat.le_of_ble_eq_true rfl) (fun x53 s52 hs52 => ?_)
                            obtain ⟨bx53, ex53, fs52, cx53_1, -⟩ := pB hs52
                            subst ex53
                            have Fs52 := Sm.tr Fs40 (Sm.wd fs52 (lo' := 60) (hi' := 63) (by decide) (by decide))
                            refine wa_iand ?_
                            refine wa_rw (bI_and (a := l3) (b := bx53) rfl rfl) ?_
                            refine wa_istore_nD (lv' := [(3, .int (bI (l3 && bx53))), (0, .ref 60), (1, .ref 7), (4, .int l4), (5, .int x39), (6, .int l6)]) (i := 3) rfl (by decide) rfl ?_
                            refine wa_iinc (v := (1)) (lv' := fun y54 => [(4, .int y54), (3, .int (bI (l3 && bx53))), (0, .ref 60), (1, .ref 7), (5, .int x39), (6, .int l6)]) (by decide) rfl (by decide) (fun _ => rfl) (fun y54 hy54 => ?_)
                            have ty54 := i_addT hy54.symm
                            clear hy54
                            refine wa_goto o_X9_load_71 (by decide) ?_
                            refine wa_pick [2, 3, 1, 0] rfl ?_
                            exact ih12 _ (by ((try simp only [vp_in_iff, Int32.lt_iff_toInt_lt, Int32.le_iff_toInt_le, ← Int32.toInt_inj, Int32.reduceToInt, n_1, n_2, n_8, Int32.toNatClampNeg, Int64.lt_iff_toInt_lt, Int64.le_iff_toInt_le, ← Int64.toInt_inj, Int64.reduceToInt, Int32.toInt_toInt64, lg_cmp_ge, lg_cmp_le, lg_cmp_gt, lg_cmp_lt, lg_cmp_eq, Bool.false_eq_true, Bool.true_eq_false, reduceCtorEq, false_iff, true_iff, iff_true, iff_false, and_true, true_and, and_false, false_and, reduceIte, ite_true, ite_false, eq_self] at *)) <;> omega) _ _ _ ⟨Fs52, ((Sm.gi fs52 10 (Or.inl (by decide))).trans (khi42_0)), ((Sm.gi fs52 11 (Or.inl (by decide))).trans (khi42_1)), ((Sm.gi fs52 13 (Or.inl (by decide))).trans (khi42_2)), (by ((try simp only [vp_in_iff, Int32.lt_iff_toInt_lt, Int32.le_iff_toInt_le, ← Int32.toInt_inj, Int32.reduceToInt, n_1, n_2, n_8, Int32.toNatClampNeg, Int64.lt_iff_toInt_lt, Int64.le_iff_toInt_le, ← Int64.toInt_inj, Int64.reduceToInt, Int32.toInt_toInt64, lg_cmp_ge, lg_cmp_le, lg_cmp_gt, lg_cmp_lt, lg_cmp_eq, Bool.false_eq_true, Bool.true_eq_false, reduceCtorEq, false_iff, true_iff, iff_true, iff_false, and_true, true_and, and_false, false_and, reduceIte, ite_true, ite_false, eq_self] at *)) <;> omega), (by first | assumption | (((try simp only [vp_in_iff, Int32.lt_iff_toInt_lt, Int32.le_iff_toInt_le, ← Int32.toInt_inj, Int32.reduceToInt, n_1, n_2, n_8, Int32.toNatClampNeg, Int64.lt_iff_toInt_lt, Int64.le_iff_toInt_le, ← Int64.toInt_inj, Int64.reduceToInt, Int32.toInt_toInt64, lg_cmp_ge, lg_cmp_le, lg_cmp_gt, lg_cmp_lt, lg_cmp_eq, Bool.false_eq_true, Bool.true_eq_false, reduceCtorEq, false_iff, true_iff, iff_true, iff_false, and_true, true_and, and_false, false_and, reduceIte, ite_true, ite_false, eq_self] at *)) <;> omega)), trivial⟩ rfl
                      · have mh43 := nle_mx h43
                        refine wa_iload_n (i := 3) rfl rfl ?_
                        refine wa_aload_n (i := 0) rfl rfl ?_
                        refine wa_aload_n (i := 1) rfl rfl ?_
                        refine wa_aload_n (i := 1) rfl rfl ?_
                        refine wa_iload rfl ?_
                        refine wa_iload rfl ?_
                        refine wa_Vi (d9 := d - 1) [.int _, .int _] [.ref 7, .ref 60, .int (bI l3)] (sp_X2_atomOf G (d := d - 1) (by omega) s40 _ _) (rfl) rfl rfl (zr (by omega)) mk_X2_atomOf ly_7 ml_9_75 (Nat.le_of_ble_eq_true rfl) (fun x56 s55 hs55 => ?_)
                        obtain ⟨zs55, -⟩ := pI hs55
                        subst zs55
                        refine wa_Vi (d9 := d - 1) [.ref 7, .int _] [.int (bI l3)] (sp_X9_takeAtom G (d := d - 1) (by omega) s40 _ (by first | assumption | exact Or.inl rfl | exact Or.inr rfl | (((try simp only [vp_in_iff, Int32.lt_iff_toInt_lt, Int32.le_iff_toInt_le, ← Int32.toInt_inj, Int32.reduceToInt, n_1, n_2, n_8, Int32.toNatClampNeg, Int64.lt_iff_toInt_lt, Int64.le_iff_toInt_le, ← Int64.toInt_inj, Int64.reduceToInt, Int32.toInt_toInt64, lg_cmp_ge, lg_cmp_le, lg_cmp_gt, lg_cmp_lt, lg_cmp_eq, Bool.false_eq_true, Bool.true_eq_false, reduceCtorEq, false_iff, true_iff, iff_true, iff_false, and_true, true_and, and_false, false_and, reduceIte, ite_true, ite_false, eq_self] at *)) <;> omega))) (rfl) rfl rfl (zr (by omega)) mk_X9_takeAtom ly_60 ml_9_78 (Nat.le_of_ble_eq_true rfl) (fun x58 s57 hs57 => ?_)
                        obtain ⟨bx58, ex58, fs57, cx58_1, -⟩ := pB hs57
                        subst ex58
                        have Fs57 := Sm.tr Fs40 (Sm.wd fs57 (lo' := 60) (hi' := 63) (by decide) (by decide))
                        refine wa_iand ?_
                        refine wa_rw (bI_and (a := l3) (b := bx58) rfl rfl) ?_
                        refine wa_istore_nD (lv' := [(3, .int (bI (l3 && bx58))), (0, .ref 60), (1, .ref 7), (4, .int l4), (5, .int x39), (6, .int l6)]) (i := 3) rfl (by decide) rfl ?_
                        refine wa_iinc (v := (1)) (lv' := fun y59 => [(6, .int y59), (3, .int (bI (l3 && bx58))), (0, .ref 60), (1, .ref 7), (4, .int l4), (5, .int x39)]) (by decide) rfl (by decide) (fun _ => rfl) (fun y59 hy59 => ?_)
                        have ty59 := i_addT hy59.symm
                        clear hy59
                        refine wa_goto o_X9_load_109 (by decide) ?_
                        refine wa_pick [2, 3, 1, 4, 5, 0] rfl ?_
                        exact ih41 _ (by ((try simp only [vp_in_iff, Int32.lt_iff_toInt_lt, Int32.le_iff_toInt_le, ← Int32.toInt_inj, Int32.reduceToInt, n_1, n_2, n_8, Int32.toNatClampNeg, Int64.lt_iff_toInt_lt, Int64.le_iff_toInt_le, ← Int64.toInt_inj, Int64.reduceToInt, Int32.toInt_toInt64, lg_cmp_ge, lg_cmp_le, lg_cmp_gt, lg_cmp_lt, lg_cmp_eq, Bool.false_eq_true, Bool.true_eq_false, reduceCtorEq, false_iff, true_iff, iff_true, iff_false, and_true, true_and, and_false, false_and, reduceIte, ite_true, ite_false, eq_self] at *)) <;> omega) _ _ _ ⟨Fs57, ((Sm.gi fs57 10 (Or.inl (by decide))).trans (khi42_0)), ((Sm.gi fs57 11 (Or.inl (by decide))).trans (khi42_1)), ((Sm.gi fs57 13 (Or.inl (by decide))).trans (khi42_2)), (by ((try simp only [vp_in_iff, Int32.lt_iff_toInt_lt, Int32.le_iff_toInt_le, ← Int32.toInt_inj, Int32.reduceToInt, n_1, n_2, n_8, Int32.toNatClampNeg, Int64.lt_iff_toInt_lt, Int64.le_iff_toInt_le, ← Int64.toInt_inj, Int64.reduceToInt, Int32.toInt_toInt64, lg_cmp_ge, lg_cmp_le, lg_cmp_gt, lg_cmp_lt, lg_cmp_eq, Bool.false_eq_true, Bool.true_eq_false, reduceCtorEq, false_iff, true_iff, iff_true, iff_false, and_true, true_and, and_false, false_and, reduceIte, ite_true, ite_false, eq_self] at *)) <;> omega), (by first | assumption | (((try simp only [vp_in_iff, Int32.lt_iff_toInt_lt, Int32.le_iff_toInt_le, ← Int32.toInt_inj, Int32.reduceToInt, n_1, n_2, n_8, Int32.toNatClampNeg, Int64.lt_iff_toInt_lt, Int64.le_iff_toInt_le, ← Int64.toInt_inj, Int64.reduceToInt, Int32.toInt_toInt64, lg_cmp_ge, lg_cmp_le, lg_cmp_gt, lg_cmp_lt, lg_cmp_eq, Bool.false_eq_true, Bool.true_eq_false, reduceCtorEq, false_iff, true_iff, iff_true, iff_false, and_true, true_and, and_false, false_and, reduceIte, ite_true, ite_false, eq_self] at *)) <;> omega)), trivial⟩ rfl
                  exact hi42 _ _ _ _ ⟨Fs11, (khi13_0), (khi13_1), (khi13_2), (by ((try simp only [vp_in_iff, Int32.lt_iff_toInt_lt, Int32.le_iff_toInt_le, ← Int32.toInt_inj, Int32.reduceToInt, n_1, n_2, n_8, Int32.toNatClampNeg, Int64.lt_iff_toInt_lt, Int64.le_iff_toInt_le, ← Int64.toInt_inj, Int64.reduceToInt, Int32.toInt_toInt64, lg_cmp_ge, lg_cmp_le, lg_cmp_gt, lg_cmp_lt, lg_cmp_eq, Bool.false_eq_true, Bool.true_eq_false, reduceCtorEq, false_iff, true_iff, iff_true, iff_false, and_true, true_and, and_false, false_and, reduceIte, ite_true, ite_false, eq_self] at *)) <;> omega), (by first | assumption | (((try simp only [vp_in_iff, Int32.lt_iff_toInt_lt, Int32.le_iff_toInt_le, ← Int32.toInt_inj, Int32.reduceToInt, n_1, n_2, n_8, Int32.toNatClampNeg, Int64.lt_iff_toInt_lt, Int64.le_iff_toInt_le, ← Int64.toInt_inj, Int64.reduceToInt, Int32.toInt_toInt64, lg_cmp_ge, lg_cmp_le, lg_cmp_gt, lg_cmp_lt, lg_cmp_eq, Bool.false_eq_true, Bool.true_eq_false, reduceCtorEq, false_iff, true_iff, iff_true, iff_false, and_true, true_and, and_false, false_and, reduceIte, ite_true, ite_false, eq_self] at *)) <;> omega)), trivial⟩ rfl
          exact hi13 _ _ _ _ ⟨Fs10, ((nx_gi_sl hs10).trans (khi7_1)), ((nx_gi_sl hs10).trans (khi7_2)), ((nx_gi_sl hs10).trans (khi7_3)), (by ((try simp only [vp_in_iff, Int32.lt_iff_toInt_lt, Int32.le_iff_toInt_le, ← Int32.toInt_inj, Int32.reduceToInt, n_1, n_2, n_8, Int32.toNatClampNeg, Int64.lt_iff_toInt_lt, Int64.le_iff_toInt_le, ← Int64.toInt_inj, Int64.reduceToInt, Int32.toInt_toInt64, lg_cmp_ge, lg_cmp_le, lg_cmp_gt, lg_cmp_lt, lg_cmp_eq, Bool.false_eq_true, Bool.true_eq_false, reduceCtorEq, false_iff, true_iff, iff_true, iff_false, and_true, true_and, and_false, false_and, reduceIte, ite_true, ite_false, eq_self] at *)) <;> omega), (by rw [(nx_gi_sl hs10).trans (khi7_0)]; first | assumption | (((try simp only [vp_in_iff, Int32.lt_iff_toInt_lt, Int32.le_iff_toInt_le, ← Int32.toInt_inj, Int32.reduceToInt, n_1, n_2, n_8, Int32.toNatClampNeg, Int64.lt_iff_toInt_lt, Int64.le_iff_toInt_le, ← Int64.toInt_inj, Int64.reduceToInt, Int32.toInt_toInt64, lg_cmp_ge, lg_cmp_le, lg_cmp_gt, lg_cmp_lt, lg_cmp_eq, Bool.false_eq_true, Bool.true_eq_false, reduceCtorEq, false_iff, true_iff, iff_true, iff_false, and_true, true_and, and_false, false_and, reduceIte, ite_true, ite_false, eq_self] at *)) <;> omega)), trivial⟩ rfl
        · refine wa_aload_n (i := 2) rfl rfl ?_
          refine wa_iconst (v := 4) (by decide) ?_
          refine wa_lald ly_29 (by ((try simp only [vp_in_iff, Int32.lt_iff_toInt_lt, Int32.le_iff_toInt_le, ← Int32.toInt_inj, Int32.reduceToInt, n_1, n_2, n_8, Int32.toNatClampNeg, Int64.lt_iff_toInt_lt, Int64.le_iff_toInt_le, ← Int64.toInt_inj, Int64.reduceToInt, Int32.toInt_toInt64, lg_cmp_ge, lg_cmp_le, lg_cmp_gt, lg_cmp_lt, lg_cmp_eq, Bool.false_eq_true, Bool.true_eq_false, reduceCtorEq, false_iff, true_iff, iff_true, iff_false, and_true, true_and, and_false, false_and, reduceIte, ite_true, ite_false, eq_self] at *)) <;> omega) ?_
          refine wa_goto o_X9_load_63 (by decide) ?_
          refine wa_putl ck_9 fl_9_63 ly_60 (fun s60 hs60 => ?_)
          have Fs60 : Sm 60 63 σ s60 := by rw [hs60]; exact Sm.sl Fs5 _ _ (by decide) (by decide)
          refine wa_iconst (v := 1) (by decide) ?_
          refine wa_istore_nD (lv' := [(3, .int (bI true)), (0, .ref 60), (1, .ref 7), (2, .ref 29)]) (i := 3) rfl (by decide) rfl ?_
          refine wa_iconst (v := 0) (by decide) ?_
          refine wa_istoreD (lv' := [(4, .int 0), (3, .int (bI true)), (0, .ref 60), (1, .ref 7), (2, .ref 29)]) (by decide) rfl ?_
          refine wa_pick [2, 3, 1, 0] rfl ?_
          have hi63 : ∀ (n9_71 : Nat) (l3 : Bool) (l4 : Int32) (s61 : St), ((Sm 60 63 σ s61) ∧ (gi s61 7 10 = gi σ 7 10) ∧ (gi s61 7 11 = gi σ 7 11) ∧ (gi s61 7 13 = gi σ 7 13) ∧ (0 ≤ l4.toInt) ∧ (0 ≤ (gi s61 60 12).toInt ∧ (gi s61 60 12).toInt ≤ 4) ∧ (True)) → (2147483647 - l4.toInt).toNat = n9_71 → WA G M_X9_load (ZM G M_X9_load d (fun r σ' => ∃ x : Bool, r = some (.int (bI x)) ∧ Sm 60 63 σ σ' ∧ (0 ≤ (gi σ' 60 12).toInt ∧ (gi σ' 60 12).toInt ≤ 4) ∧ True)) B_X9_load_71 [(0, .ref 60), (1, .ref 7), (3, .int (bI l3)), (4, .int l4)] [] s61 := by
            intro n9_71
            induction n9_71 using Nat.strongRecOn with
            | _ n9_71 ih62 =>
              intro l3 l4 s61 i9 m9_71
              obtain ⟨Fs61, khi63_0, khi63_1, khi63_2, jhi63_0, jhi63_1, -⟩ := i9
              have ul4 := Int32.toInt_lt l4
              have wl4 := Int32.le_toInt l4
              refine wa_iload rfl ?_
              refine wa_aload_n (i := 1) rfl rfl ?_
              refine wa_geti ck_2 fl_9_66 ly_7 ?_
              refine wa_rw (khi63_1) ?_
              refine wa_icmp_ge o_X9_load_178 (by decide) (fun h64 => ?_) (fun h64 => ?_)
              · refine wa_iload_n (i := 3) rfl rfl ?_
                refine wa_zreturn l3 (rfl) rfl rfl ?_
                exact ⟨_, rfl, Fs61, (by first | assumption | (((try simp only [vp_in_iff, Int32.lt_iff_toInt_lt, Int32.le_iff_toInt_le, ← Int32.toInt_inj, Int32.reduceToInt, n_1, n_2, n_8, Int32.toNatClampNeg, Int64.lt_iff_toInt_lt, Int64.le_iff_toInt_le, ← Int64.toInt_inj, Int64.reduceToInt, Int32.toInt_toInt64, lg_cmp_ge, lg_cmp_le, lg_cmp_gt, lg_cmp_lt, lg_cmp_eq, Bool.false_eq_true, Bool.true_eq_false, reduceCtorEq, false_iff, true_iff, iff_true, iff_false, and_true, true_and, and_false, false_and, reduceIte, ite_true, ite_false, eq_self] at *)) <;> omega)), trivial⟩
              · have mh64 := nle_mx h64
                refine wa_aload_n (i := 1) rfl rfl ?_
                refine wa_geti ck_2 fl_9_69 ly_7 ?_
                refine wa_rw (khi63_2) ?_
                refine wa_iload rfl ?_
                refine wa_iushr ?_
                refine wa_top (fun v65 hv65 => ?_)
                clear hv65
                refine wa_iconst (v := 1) (by decide) ?_
                refine wa_iand ?_
                refine wa_top (fun v66 hv66 => ?_)
                have tv66 := i_andT hv66
                clear hv66
                refine wa_iconst (v := 1) (by decide) ?_
                refine wa_icmp_ne o_X9_load_103 (by decide) (fun h67 => ?_) (fun h67 => ?_)
                · refine wa_iconst (v := 0) (by decide) ?_
                  refine wa_istoreD (lv' := [(5, .int 0), (0, .ref 60), (1, .ref 7), (3, .int (bI l3)), (4, .int l4)]) (by decide) rfl ?_
                  refine wa_iconst (v := 0) (by decide) ?_
                  refine wa_istoreD (lv' := [(6, .int 0), (5, .int 0), (0, .ref 60), (1, .ref 7), (3, .int (bI l3)), (4, .int l4)]) (by decide) rfl ?_
                  refine wa_pick [2, 3, 4, 5, 1, 0] rfl ?_
                  have hi70 : ∀ (n9_109 : Nat) (l3 : Bool) (l6 : Int32) (s68 : St), ((Sm 60 63 σ s68) ∧ (gi s68 7 10 = gi σ 7 10) ∧ (gi s68 7 11 = gi σ 7 11) ∧ (gi s68 7 13 = gi σ 7 13) ∧ (0 ≤ l6.toInt) ∧ (0 ≤ (gi s68 60 12).toInt ∧ (gi s68 60 12).toInt ≤ 4) ∧ (True)) → (2147483647 - l6.toInt).toNat = n9_109 → WA G M_X9_load (ZM G M_X9_load d (fun r σ' => ∃ x : Bool, r = some (.int (bI x)) ∧ Sm 60 63 σ σ' ∧ (0 ≤ (gi σ' 60 12).toInt ∧ (gi σ' 60 12).toInt ≤ 4) ∧ True)) B_X9_load_109 [(0, .ref 60), (1, .ref 7), (3, .int (bI l3)), (4, .int l4), (5, .int 0), (6, .int l6)] [] s68 := by
                    intro n9_109
                    induction n9_109 using Nat.strongRecOn with
                    | _ n9_109 ih69 =>
                      intro l3 l6 s68 i9 m9_109
                      obtain ⟨Fs68, khi70_0, khi70_1, khi70_2, jhi70_0, jhi70_1, -⟩ := i9
                      have ul6 := Int32.toInt_lt l6
                      have wl6 := Int32.le_toInt l6
                      refine wa_iload rfl ?_
                      refine wa_iload rfl ?_
                      refine wa_icmp_ge o_X9_load_138 (by decide) (fun h71 => ?_) (fun h71 => ?_)
                      · refine wa_aload_n (i := 1) rfl rfl ?_
                        refine wa_geti ck_2 fl_9_69 ly_7 ?_
                        refine wa_rw (khi70_2) ?_
                        refine wa_iload rfl ?_
                        refine wa_iushr ?_
                        refine wa_top (fun v72 hv72 => ?_)
                        clear hv72
                        refine wa_iconst (v := 1) (by decide) ?_
                        refine wa_iand ?_
                        refine wa_top (fun v73 hv73 => ?_)
                        have tv73 := i_andT hv73
                        clear hv73
                        refine wa_iconst (v := 1) (by decide) ?_
                        refine wa_icmp_ne o_X9_load_172 (by decide) (fun h74 => ?_) (fun h74 => ?_)
                        · refine wa_iinc (v := (1)) (lv' := fun y75 => [(4, .int y75), (0, .ref 60), (1, .ref 7), (3, .int (bI l3)), (5, .int 0), (6, .int l6)]) (by decide) rfl (by decide) (fun _ => rfl) (fun y75 hy75 => ?_)
                          have ty75 := i_addT hy75.symm
                          clear hy75
                          refine wa_goto o_X9_load_71 (by decide) ?_
                          refine wa_pick [1, 2, 3, 0] rfl ?_
                          exact ih62 _ (by ((try simp only [vp_in_iff, Int32.lt_iff_toInt_lt, Int32.le_iff_toInt_le, ← Int32.toInt_inj, Int32.reduceToInt, n_1, n_2, n_8, Int32.toNatClampNeg, Int64.lt_iff_toInt_lt, Int64.le_iff_toInt_le, ← Int64.toInt_inj, Int64.reduceToInt, Int32.toInt_toInt64, lg_cmp_ge, lg_cmp_le, lg_cmp_gt, lg_cmp_lt, lg_cmp_eq, Bool.false_eq_true, Bool.true_eq_false, reduceCtorEq, false_iff, true_iff, iff_true, iff_false, and_true, true_and, and_false, false_and, reduceIte, ite_true, ite_false, eq_self] at *)) <;> omega) _ _ _ ⟨Fs68, (khi70_0), (khi70_1), (khi70_2), (by ((try simp only [vp_in_iff, Int32.lt_iff_toInt_lt, Int32.le_iff_toInt_le, ← Int32.toInt_inj, Int32.reduceToInt, n_1, n_2, n_8, Int32.toNatClampNeg, Int64.lt_iff_toInt_lt, Int64.le_iff_toInt_le, ← Int64.toInt_inj, Int64.reduceToInt, Int32.toInt_toInt64, lg_cmp_ge, lg_cmp_le, lg_cmp_gt, lg_cmp_lt, lg_cmp_eq, Bool.false_eq_true, Bool.true_eq_false, reduceCtorEq, false_iff, true_iff, iff_true, iff_false, and_true, true_and, and_false, false_and, reduceIte, ite_true, ite_false, eq_self] at *)) <;> omega), (by first | assumption | (((try simp only [vp_in_iff, Int32.lt_iff_toInt_lt, Int32.le_iff_toInt_le, ← Int32.toInt_inj, Int32.reduceToInt, n_1, n_2, n_8, Int32.toNatClampNeg, Int64.lt_iff_toInt_lt, Int64.le_iff_toInt_le, ← Int64.toInt_inj, Int64.reduceToInt, Int32.toInt_toInt64, lg_cmp_ge, lg_cmp_le, lg_cmp_gt, lg_cmp_lt, lg_cmp_eq, Bool.false_eq_true, Bool.true_eq_false, reduceCtorEq, false_iff, true_iff, iff_true, iff_false, and_true, true_and, and_false, false_and, reduceIte, ite_true, ite_false, eq_self] at *)) <;> omega)), trivial⟩ rfl
                        · refine wa_aload_n (i := 1) rfl rfl ?_
                          refine wa_iload rfl ?_
                          refine wa_bipush (v := 6) (by decide) ?_
                          refine wa_Vi (d9 := d - 1) [.int _, .int _] [] (sp_X2_fact G (d := d - 1) (by omega) s68 _ _) (rfl) rfl rfl (zr (by omega)) mk_X2_fact ly_7 ml_9_72 (Nat.le_of_ble_eq_true rfl) (fun x77 s76 hs76 => ?_)
                          obtain ⟨zs76, -⟩ := pI hs76
                          subst zs76
                          refine wa_iconst (v := 1) (by decide) ?_
                          refine wa_icmp_ne o_X9_load_172 (by decide) (fun h78 => ?_) (fun h78 => ?_)
                          · refine wa_iinc (v := (1)) (lv' := fun y79 => [(4, .int y79), (0, .ref 60), (1, .ref 7), (3, .int (bI l3)), (5, .int 0), (6, .int l6)]) (by decide) rfl (by decide) (fun _ => rfl) (fun y79 hy79 => ?_)
                            have ty79 := i_addT hy79.symm
                            clear hy79
                            refine wa_goto o_X9_load_71 (by decide) ?_
                            refine wa_pick [1, 2, 3, 0] rfl ?_
                            exact ih62 _ (by ((try simp only [vp_in_iff, Int32.lt_iff_toInt_lt, Int32.le_iff_toInt_le, ← Int32.toInt_inj, Int32.reduceToInt, n_1, n_2, n_8, Int32.toNatClampNeg, Int64.lt_iff_toInt_lt, Int64.le_iff_toInt_le, ← Int64.toInt_inj, Int64.reduceToInt, Int32.toInt_toInt64, lg_cmp_ge, lg_cmp_le, lg_cmp_gt, lg_cmp_lt, lg_cmp_eq, Bool.false_eq_true, Bool.true_eq_false, reduceCtorEq, false_iff, true_iff, iff_true, iff_false, and_true, true_and, and_false, false_and, reduceIte, ite_true, ite_false, eq_self] at *)) <;> omega) _ _ _ ⟨Fs68, (khi70_0), (khi70_1), (khi70_2), (by ((try simp only [vp_in_iff, Int32.lt_iff_toInt_lt, Int32.le_iff_toInt_le, ← Int32.toInt_inj, Int32.reduceToInt, n_1, n_2, n_8, Int32.toNatClampNeg, Int64.lt_iff_toInt_lt, Int64.le_iff_toInt_le, ← Int64.toInt_inj, Int64.reduceToInt, Int32.toInt_toInt64, lg_cmp_ge, lg_cmp_le, lg_cmp_gt, lg_cmp_lt, lg_cmp_eq, Bool.false_eq_true, Bool.true_eq_false, reduceCtorEq, false_iff, true_iff, iff_true, iff_false, and_true, true_and, and_false, false_and, reduceIte, ite_true, ite_false, eq_self] at *)) <;> omega), (by first | assumption | (((try simp only [vp_in_iff, Int32.lt_iff_toInt_lt, Int32.le_iff_toInt_le, ← Int32.toInt_inj, Int32.reduceToInt, n_1, n_2, n_8, Int32.toNatClampNeg, Int64.lt_iff_toInt_lt, Int64.le_iff_toInt_le, ← Int64.toInt_inj, Int64.reduceToInt, Int32.toInt_toInt64, lg_cmp_ge, lg_cmp_le, lg_cmp_gt, lg_cmp_lt, lg_cmp_eq, Bool.false_eq_true, Bool.true_eq_false, reduceCtorEq, false_iff, true_iff, iff_true, iff_false, and_true, true_and, and_false, false_and, reduceIte, ite_true, ite_false, eq_self] at *)) <;> omega)), trivial⟩ rfl
                          · refine wa_iload_n (i := 3) rfl rfl ?_
                            refine wa_aload_n (i := 0) rfl rfl ?_
                            refine wa_aload_n (i := 1) rfl rfl ?_
                            refine wa_iconst (v := (-1)) (by decide) ?_
                            refine wa_Vi (d9 := d - 1) [.ref 7, .int _] [.int (bI l3)] (sp_X9_takeAtom G (d := d - 1) (by omega) s68 _ (by first | assumption | exact Or.inl rfl | exact Or.inr rfl | (((try simp only [vp_in_iff, Int32.lt_iff_toInt_lt, Int32.le_iff_toInt_le, ← Int32.toInt_inj, Int32.reduceToInt, n_1, n_2, n_8, Int32.toNatClampNeg, Int64.lt_iff_toInt_lt, Int64.le_iff_toInt_le, ← Int64.toInt_inj, Int64.reduceToInt, Int32.toInt_toInt64, lg_cmp_ge, lg_cmp_le, lg_cmp_gt, lg_cmp_lt, lg_cmp_eq, Bool.false_eq_true, Bool.true_eq_false, reduceCtorEq, false_iff, true_iff, iff_true, iff_false, and_true, true_and, and_false, false_and, reduceIte, ite_true, ite_false, eq_self] at *)) <;> omega))) (rfl) rfl rfl (zr (by omega)) mk_X9_takeAtom ly_60 ml_9_78 (Nat.le_of_ble_eq_true rfl) (fun x81 s80 hs80 => ?_)
                            obtain ⟨bx81, ex81, fs80, cx81_1, -⟩ := pB hs80
                            subst ex81
                            have Fs80 := Sm.tr Fs68 (Sm.wd fs80 (lo' := 60) (hi' := 63) (by decide) (by decide))
                            refine wa_iand ?_
                            refine wa_rw (bI_and (a := l3) (b := bx81) rfl rfl) ?_
                            refine wa_istore_nD (lv' := [(3, .int (bI (l3 && bx81))), (0, .ref 60), (1, .ref 7), (4, .int l4), (5, .int 0), (6, .int l6)]) (i := 3) rfl (by decide) rfl ?_
                            refine wa_iinc (v := (1)) (lv' := fun y82 => [(4, .int y82), (3, .int (bI (l3 && bx81))), (0, .ref 60), (1, .ref 7), (5, .int 0), (6, .int l6)]) (by decide) rfl (by decide) (fun _ => rfl) (fun y82 hy82 => ?_)
                            have ty82 := i_addT hy82.symm
                            clear hy82
                            refine wa_goto o_X9_load_71 (by decide) ?_
                            refine wa_pick [2, 3, 1, 0] rfl ?_
                            exact ih62 _ (by ((try simp only [vp_in_iff, Int32.lt_iff_toInt_lt, Int32.le_iff_toInt_le, ← Int32.toInt_inj, Int32.reduceToInt, n_1, n_2, n_8, Int32.toNatClampNeg, Int64.lt_iff_toInt_lt, Int64.le_iff_toInt_le, ← Int64.toInt_inj, Int64.reduceToInt, Int32.toInt_toInt64, lg_cmp_ge, lg_cmp_le, lg_cmp_gt, lg_cmp_lt, lg_cmp_eq, Bool.false_eq_true, Bool.true_eq_false, reduceCtorEq, false_iff, true_iff, iff_true, iff_false, and_true, true_and, and_false, false_and, reduceIte, ite_true, ite_false, eq_self] at *)) <;> omega) _ _ _ ⟨Fs80, ((Sm.gi fs80 10 (Or.inl (by decide))).trans (khi70_0)), ((Sm.gi fs80 11 (Or.inl (by decide))).trans (khi70_1)), ((Sm.gi fs80 13 (Or.inl (by decide))).trans (khi70_2)), (by ((try simp only [vp_in_iff, Int32.lt_iff_toInt_lt, Int32.le_iff_toInt_le, ← Int32.toInt_inj, Int32.reduceToInt, n_1, n_2, n_8, Int32.toNatClampNeg, Int64.lt_iff_toInt_lt, Int64.le_iff_toInt_le, ← Int64.toInt_inj, Int64.reduceToInt, Int32.toInt_toInt64, lg_cmp_ge, lg_cmp_le, lg_cmp_gt, lg_cmp_lt, lg_cmp_eq, Bool.false_eq_true, Bool.true_eq_false, reduceCtorEq, false_iff, true_iff, iff_true, iff_false, and_true, true_and, and_false, false_and, reduceIte, ite_true, ite_false, eq_self] at *)) <;> omega), (by first | assumption | (((try simp only [vp_in_iff, Int32.lt_iff_toInt_lt, Int32.le_iff_toInt_le, ← Int32.toInt_inj, Int32.reduceToInt, n_1, n_2, n_8, Int32.toNatClampNeg, Int64.lt_iff_toInt_lt, Int64.le_iff_toInt_le, ← Int64.toInt_inj, Int64.reduceToInt, Int32.toInt_toInt64, lg_cmp_ge, lg_cmp_le, lg_cmp_gt, lg_cmp_lt, lg_cmp_eq, Bool.false_eq_true, Bool.true_eq_false, reduceCtorEq, false_iff, true_iff, iff_true, iff_false, and_true, true_and, and_false, false_and, reduceIte, ite_true, ite_false, eq_self] at *)) <;> omega)), trivial⟩ rfl
                      · have mh71 := nle_mx h71
                        refine wa_iload_n (i := 3) rfl rfl ?_
                        refine wa_aload_n (i := 0) rfl rfl ?_
                        refine wa_aload_n (i := 1) rfl rfl ?_
                        refine wa_aload_n (i := 1) rfl rfl ?_
                        refine wa_iload rfl ?_
                        refine wa_iload rfl ?_
                        refine wa_Vi (d9 := d - 1) [.int _, .int _] [.ref 7, .ref 60, .int (bI l3)] (sp_X2_atomOf G (d := d - 1) (by omega) s68 _ _) (rfl) rfl rfl (zr (by omega)) mk_X2_atomOf ly_7 ml_9_75 (Nat.le_of_ble_eq_true rfl) (fun x84 s83 hs83 => ?_)
                        obtain ⟨zs83, -⟩ := pI hs83
                        subst zs83
                        refine wa_Vi (d9 := d - 1) [.ref 7, .int _] [.int (bI l3)] (sp_X9_takeAtom G (d := d - 1) (by omega) s68 _ (by first | assumption | exact Or.inl rfl | exact Or.inr rfl | (((try simp only [vp_in_iff, Int32.lt_iff_toInt_lt, Int32.le_iff_toInt_le, ← Int32.toInt_inj, Int32.reduceToInt, n_1, n_2, n_8, Int32.toNatClampNeg, Int64.lt_iff_toInt_lt, Int64.le_iff_toInt_le, ← Int64.toInt_inj, Int64.reduceToInt, Int32.toInt_toInt64, lg_cmp_ge, lg_cmp_le, lg_cmp_gt, lg_cmp_lt, lg_cmp_eq, Bool.false_eq_true, Bool.true_eq_false, reduceCtorEq, false_iff, true_iff, iff_true, iff_false, and_true, true_and, and_false, false_and, reduceIte, ite_true, ite_false, eq_self] at *)) <;> omega))) (rfl) rfl rfl (zr (by omega)) mk_X9_takeAtom ly_60 ml_9_78 (Nat.le_of_ble_eq_true rfl) (fun x86 s85 hs85 => ?_)
                        obtain ⟨bx86, ex86, fs85, cx86_1, -⟩ := pB hs85
                        subst ex86
                        have Fs85 := Sm.tr Fs68 (Sm.wd fs85 (lo' := 60) (hi' := 63) (by decide) (by decide))
                        refine wa_iand ?_
                        refine wa_rw (bI_and (a := l3) (b := bx86) rfl rfl) ?_
                        refine wa_istore_nD (lv' := [(3, .int (bI (l3 && bx86))), (0, .ref 60), (1, .ref 7), (4, .int l4), (5, .int 0), (6, .int l6)]) (i := 3) rfl (by decide) rfl ?_
                        refine wa_iinc (v := (1)) (lv' := fun y87 => [(6, .int y87), (3, .int (bI (l3 && bx86))), (0, .ref 60), (1, .ref 7), (4, .int l4), (5, .int 0)]) (by decide) rfl (by decide) (fun _ => rfl) (fun y87 hy87 => ?_)
                        have ty87 := i_addT hy87.symm
                        clear hy87
                        refine wa_goto o_X9_load_109 (by decide) ?_
                        refine wa_pick [2, 3, 1, 4, 5, 0] rfl ?_
                        exact ih69 _ (by ((try simp only [vp_in_iff, Int32.lt_iff_toInt_lt, Int32.le_iff_toInt_le, ← Int32.toInt_inj, Int32.reduceToInt, n_1, n_2, n_8, Int32.toNatClampNeg, Int64.lt_iff_toInt_lt, Int64.le_iff_toInt_le, ← Int64.toInt_inj, Int64.reduceToInt, Int32.toInt_toInt64, lg_cmp_ge, lg_cmp_le, lg_cmp_gt, lg_cmp_lt, lg_cmp_eq, Bool.false_eq_true, Bool.true_eq_false, reduceCtorEq, false_iff, true_iff, iff_true, iff_false, and_true, true_and, and_false, false_and, reduceIte, ite_true, ite_false, eq_self] at *)) <;> omega) _ _ _ ⟨Fs85, ((Sm.gi fs85 10 (Or.inl (by decide))).trans (khi70_0)), ((Sm.gi fs85 11 (Or.inl (by decide))).trans (khi70_1)), ((Sm.gi fs85 13 (Or.inl (by decide))).trans (khi70_2)), (by ((try simp only [vp_in_iff, Int32.lt_iff_toInt_lt, Int32.le_iff_toInt_le, ← Int32.toInt_inj, Int32.reduceToInt, n_1, n_2, n_8, Int32.toNatClampNeg, Int64.lt_iff_toInt_lt, Int64.le_iff_toInt_le, ← Int64.toInt_inj, Int64.reduceToInt, Int32.toInt_toInt64, lg_cmp_ge, lg_cmp_le, lg_cmp_gt, lg_cmp_lt, lg_cmp_eq, Bool.false_eq_true, Bool.true_eq_false, reduceCtorEq, false_iff, true_iff, iff_true, iff_false, and_true, true_and, and_false, false_and, reduceIte, ite_true, ite_false, eq_self] at *)) <;> omega), (by first | assumption | (((try simp only [vp_in_iff, Int32.lt_iff_toInt_lt, Int32.le_iff_toInt_le, ← Int32.toInt_inj, Int32.reduceToInt, n_1, n_2, n_8, Int32.toNatClampNeg, Int64.lt_iff_toInt_lt, Int64.le_iff_toInt_le, ← Int64.toInt_inj, Int64.reduceToInt, Int32.toInt_toInt64, lg_cmp_ge, lg_cmp_le, lg_cmp_gt, lg_cmp_lt, lg_cmp_eq, Bool.false_eq_true, Bool.true_eq_false, reduceCtorEq, false_iff, true_iff, iff_true, iff_false, and_true, true_and, and_false, false_and, reduceIte, ite_true, ite_false, eq_self] at *)) <;> omega)), trivial⟩ rfl
                  exact hi70 _ _ _ _ ⟨Fs61, (khi63_0), (khi63_1), (khi63_2), (by ((try simp only [vp_in_iff, Int32.lt_iff_toInt_lt, Int32.le_iff_toInt_le, ← Int32.toInt_inj, Int32.reduceToInt, n_1, n_2, n_8, Int32.toNatClampNeg, Int64.lt_iff_toInt_lt, Int64.le_iff_toInt_le, ← Int64.toInt_inj, Int64.reduceToInt, Int32.toInt_toInt64, lg_cmp_ge, lg_cmp_le, lg_cmp_gt, lg_cmp_lt, lg_cmp_eq, Bool.false_eq_true, Bool.true_eq_false, reduceCtorEq, false_iff, true_iff, iff_true, iff_false, and_true, true_and, and_false, false_and, reduceIte, ite_true, ite_false, eq_self] at *)) <;> omega), (by first | assumption | (((try simp only [vp_in_iff, Int32.lt_iff_toInt_lt, Int32.le_iff_toInt_le, ← Int32.toInt_inj, Int32.reduceToInt, n_1, n_2, n_8, Int32.toNatClampNeg, Int64.lt_iff_toInt_lt, Int64.le_iff_toInt_le, ← Int64.toInt_inj, Int64.reduceToInt, Int32.toInt_toInt64, lg_cmp_ge, lg_cmp_le, lg_cmp_gt, lg_cmp_lt, lg_cmp_eq, Bool.false_eq_true, Bool.true_eq_false, reduceCtorEq, false_iff, true_iff, iff_true, iff_false, and_true, true_and, and_false, false_and, reduceIte, ite_true, ite_false, eq_self] at *)) <;> omega)), trivial⟩ rfl
                · refine wa_aload_n (i := 1) rfl rfl ?_
                  refine wa_iload rfl ?_
                  refine wa_iconst (v := 4) (by decide) ?_
                  refine wa_Vi (d9 := d - 1) [.int _, .int _] [] (sp_X2_fact G (d := d - 1) (by omega) s61 _ _) (rfl) rfl rfl (zr (by omega)) mk_X2_fact ly_7 ml_9_72 (Nat.le_of_ble_eq_true rfl) (fun x89 s88 hs88 => ?_)
                  obtain ⟨zs88, -⟩ := pI hs88
                  subst zs88
                  refine wa_goto o_X9_load_104 (by decide) ?_
                  refine wa_istoreD (lv' := [(5, .int x89), (0, .ref 60), (1, .ref 7), (3, .int (bI l3)), (4, .int l4)]) (by decide) rfl ?_
                  refine wa_iconst (v := 0) (by decide) ?_
                  refine wa_istoreD (lv' := [(6, .int 0), (5, .int x89), (0, .ref 60), (1, .ref 7), (3, .int (bI l3)), (4, .int l4)]) (by decide) rfl ?_
                  refine wa_pick [2, 3, 4, 5, 1, 0] rfl ?_
                  have hi92 : ∀ (n9_109 : Nat) (l3 : Bool) (l6 : Int32) (s90 : St), ((Sm 60 63 σ s90) ∧ (gi s90 7 10 = gi σ 7 10) ∧ (gi s90 7 11 = gi σ 7 11) ∧ (gi s90 7 13 = gi σ 7 13) ∧ (0 ≤ l6.toInt) ∧ (0 ≤ (gi s90 60 12).toInt ∧ (gi s90 60 12).toInt ≤ 4) ∧ (True)) → (2147483647 - l6.toInt).toNat = n9_109 → WA G M_X9_load (ZM G M_X9_load d (fun r σ' => ∃ x : Bool, r = some (.int (bI x)) ∧ Sm 60 63 σ σ' ∧ (0 ≤ (gi σ' 60 12).toInt ∧ (gi σ' 60 12).toInt ≤ 4) ∧ True)) B_X9_load_109 [(0, .ref 60), (1, .ref 7), (3, .int (bI l3)), (4, .int l4), (5, .int x89), (6, .int l6)] [] s90 := by
                    intro n9_109
                    induction n9_109 using Nat.strongRecOn with
                    | _ n9_109 ih91 =>
                      intro l3 l6 s90 i9 m9_109
                      obtain ⟨Fs90, khi92_0, khi92_1, khi92_2, jhi92_0, jhi92_1, -⟩ := i9
                      have ul6 := Int32.toInt_lt l6
                      have wl6 := Int32.le_toInt l6
                      refine wa_iload rfl ?_
                      refine wa_iload rfl ?_
                      refine wa_icmp_ge o_X9_load_138 (by decide) (fun h93 => ?_) (fun h93 => ?_)
                      · refine wa_aload_n (i := 1) rfl rfl ?_
                        refine wa_geti ck_2 fl_9_69 ly_7 ?_
                        refine wa_rw (khi92_2) ?_
                        refine wa_iload rfl ?_
                        refine wa_iushr ?_
                        refine wa_top (fun v94 hv94 => ?_)
                        clear hv94
                        refine wa_iconst (v := 1) (by decide) ?_
                        refine wa_iand ?_
                        refine wa_top (fun v95 hv95 => ?_)
                        have tv95 := i_andT hv95
                        clear hv95
                        refine wa_iconst (v := 1) (by decide) ?_
                        refine wa_icmp_ne o_X9_load_172 (by decide) (fun h96 => ?_) (fun h96 => ?_)
                        · refine wa_iinc (v := (1)) (lv' := fun y97 => [(4, .int y97), (0, .ref 60), (1, .ref 7), (3, .int (bI l3)), (5, .int x89), (6, .int l6)]) (by decide) rfl (by decide) (fun _ => rfl) (fun y97 hy97 => ?_)
                          have ty97 := i_addT hy97.symm
                          clear hy97
                          refine wa_goto o_X9_load_71 (by decide) ?_
                          refine wa_pick [1, 2, 3, 0] rfl ?_
                          exact ih62 _ (by ((try simp only [vp_in_iff, Int32.lt_iff_toInt_lt, Int32.le_iff_toInt_le, ← Int32.toInt_inj, Int32.reduceToInt, n_1, n_2, n_8, Int32.toNatClampNeg, Int64.lt_iff_toInt_lt, Int64.le_iff_toInt_le, ← Int64.toInt_inj, Int64.reduceToInt, Int32.toInt_toInt64, lg_cmp_ge, lg_cmp_le, lg_cmp_gt, lg_cmp_lt, lg_cmp_eq, Bool.false_eq_true, Bool.true_eq_false, reduceCtorEq, false_iff, true_iff, iff_true, iff_false, and_true, true_and, and_false, false_and, reduceIte, ite_true, ite_false, eq_self] at *)) <;> omega) _ _ _ ⟨Fs90, (khi92_0), (khi92_1), (khi92_2), (by ((try simp only [vp_in_iff, Int32.lt_iff_toInt_lt, Int32.le_iff_toInt_le, ← Int32.toInt_inj, Int32.reduceToInt, n_1, n_2, n_8, Int32.toNatClampNeg, Int64.lt_iff_toInt_lt, Int64.le_iff_toInt_le, ← Int64.toInt_inj, Int64.reduceToInt, Int32.toInt_toInt64, lg_cmp_ge, lg_cmp_le, lg_cmp_gt, lg_cmp_lt, lg_cmp_eq, Bool.false_eq_true, Bool.true_eq_false, reduceCtorEq, false_iff, true_iff, iff_true, iff_false, and_true, true_and, and_false, false_and, reduceIte, ite_true, ite_false, eq_self] at *)) <;> omega), (by first | assumption | (((try simp only [vp_in_iff, Int32.lt_iff_toInt_lt, Int32.le_iff_toInt_le, ← Int32.toInt_inj, Int32.reduceToInt, n_1, n_2, n_8, Int32.toNatClampNeg, Int64.lt_iff_toInt_lt, Int64.le_iff_toInt_le, ← Int64.toInt_inj, Int64.reduceToInt, Int32.toInt_toInt64, lg_cmp_ge, lg_cmp_le, lg_cmp_gt, lg_cmp_lt, lg_cmp_eq, Bool.false_eq_true, Bool.true_eq_false, reduceCtorEq, false_iff, true_iff, iff_true, iff_false, and_true, true_and, and_false, false_and, reduceIte, ite_true, ite_false, eq_self] at *)) <;> omega)), trivial⟩ rfl
                        · refine wa_aload_n (i := 1) rfl rfl ?_
                          refine wa_iload rfl ?_
                          refine wa_bipush (v := 6) (by decide) ?_
                          refine wa_Vi (d9 := d - 1) [.int _, .int _] [] (sp_X2_fact G (d := d - 1) (by omega) s90 _ _) (rfl) rfl rfl (zr (by omega)) mk_X2_fact ly_7 ml_9_72 (Nat.le_of_ble_eq_true rfl) (fun x99 s98 hs98 => ?_)
                          obtain ⟨zs98, -⟩ := pI hs98
                          subst zs98
                          refine wa_iconst (v := 1) (by decide) ?_
                          refine wa_icmp_ne o_X9_load_172 (by decide) (fun h100 => ?_) (fun h100 => ?_)
                          · refine wa_iinc (v := (1)) (lv' := fun y101 => [(4, .int y101), (0, .ref 60), (1, .ref 7), (3, .int (bI l3)), (5, .int x89), (6, .int l6)]) (by decide) rfl (by decide) (fun _ => rfl) (fun y101 hy101 => ?_)
                            have ty101 := i_addT hy101.symm
                            clear hy101
                            refine wa_goto o_X9_load_71 (by decide) ?_
                            refine wa_pick [1, 2, 3, 0] rfl ?_
                            exact ih62 _ (by ((try simp only [vp_in_iff, Int32.lt_iff_toInt_lt, Int32.le_iff_toInt_le, ← Int32.toInt_inj, Int32.reduceToInt, n_1, n_2, n_8, Int32.toNatClampNeg, Int64.lt_iff_toInt_lt, Int64.le_iff_toInt_le, ← Int64.toInt_inj, Int64.reduceToInt, Int32.toInt_toInt64, lg_cmp_ge, lg_cmp_le, lg_cmp_gt, lg_cmp_lt, lg_cmp_eq, Bool.false_eq_true, Bool.true_eq_false, reduceCtorEq, false_iff, true_iff, iff_true, iff_false, and_true, true_and, and_false, false_and, reduceIte, ite_true, ite_false, eq_self] at *)) <;> omega) _ _ _ ⟨Fs90, (khi92_0), (khi92_1), (khi92_2), (by ((try simp only [vp_in_iff, Int32.lt_iff_toInt_lt, Int32.le_iff_toInt_le, ← Int32.toInt_inj, Int32.reduceToInt, n_1, n_2, n_8, Int32.toNatClampNeg, Int64.lt_iff_toInt_lt, Int64.le_iff_toInt_le, ← Int64.toInt_inj, Int64.reduceToInt, Int32.toInt_toInt64, lg_cmp_ge, lg_cmp_le, lg_cmp_gt, lg_cmp_lt, lg_cmp_eq, Bool.false_eq_true, Bool.true_eq_false, reduceCtorEq, false_iff, true_iff, iff_true, iff_false, and_true, true_and, and_false, false_and, reduceIte, ite_true, ite_false, eq_self] at *)) <;> omega), (by first | assumption | (((try simp only [vp_in_iff, Int32.lt_iff_toInt_lt, Int32.le_iff_toInt_le, ← Int32.toInt_inj, Int32.reduceToInt, n_1, n_2, n_8, Int32.toNatClampNeg, Int64.lt_iff_toInt_lt, Int64.le_iff_toInt_le, ← Int64.toInt_inj, Int64.reduceToInt, Int32.toInt_toInt64, lg_cmp_ge, lg_cmp_le, lg_cmp_gt, lg_cmp_lt, lg_cmp_eq, Bool.false_eq_true, Bool.true_eq_false, reduceCtorEq, false_iff, true_iff, iff_true, iff_false, and_true, true_and, and_false, false_and, reduceIte, ite_true, ite_false, eq_self] at *)) <;> omega)), trivial⟩ rfl
                          · refine wa_iload_n (i := 3) rfl rfl ?_
                            refine wa_aload_n (i := 0) rfl rfl ?_
                            refine wa_aload_n (i := 1) rfl rfl ?_
                            refine wa_iconst (v := (-1)) (by decide) ?_
                            refine wa_Vi (d9 := d - 1) [.ref 7, .int _] [.int (bI l3)] (sp_X9_takeAtom G (d := d - 1) (by omega) s90 _ (by first | assumption | exact Or.inl rfl | exact Or.inr rfl | (((try simp only [vp_in_iff, Int32.lt_iff_toInt_lt, Int32.le_iff_toInt_le, ← Int32.toInt_inj, Int32.reduceToInt, n_1, n_2, n_8, Int32.toNatClampNeg, Int64.lt_iff_toInt_lt, Int64.le_iff_toInt_le, ← Int64.toInt_inj, Int64.reduceToInt, Int32.toInt_toInt64, lg_cmp_ge, lg_cmp_le, lg_cmp_gt, lg_cmp_lt, lg_cmp_eq, Bool.false_eq_true, Bool.true_eq_false, reduceCtorEq, false_iff, true_iff, iff_true, iff_false, and_true, true_and, and_false, false_and, reduceIte, ite_true, ite_false, eq_self] at *)) <;> omega))) (rfl) rfl rfl (zr (by omega)) mk_X9_takeAtom ly_60 ml_9_78 (Nat.le_of_ble_eq_true rfl) (fun x103 s102 hs102 => ?_)
                            obtain ⟨bx103, ex103, fs102, cx103_1, -⟩ := pB hs102
                            subst ex103
                            have Fs102 := Sm.tr Fs90 (Sm.wd fs102 (lo' := 60) (hi' := 63) (by decide) (by decide))
                            refine wa_iand ?_
                            refine wa_rw (bI_and (a := l3) (b := bx103) rfl rfl) ?_
                            refine wa_istore_nD (lv' := [(3, .int (bI (l3 && bx103))), (0, .ref 60), (1, .ref 7), (4, .int l4), (5, .int x89), (6, .int l6)]) (i := 3) rfl (by decide) rfl ?_
                            refine wa_iinc (v := (1)) (lv' := fun y104 => [(4, .int y104), (3, .int (bI (l3 && bx103))), (0, .ref 60), (1, .ref 7), (5, .int x89), (6, .int l6)]) (by decide) rfl (by decide) (fun _ => rfl) (fun y104 hy104 => ?_)
                            have ty104 := i_addT hy104.symm
                            clear hy104
                            refine wa_goto o_X9_load_71 (by decide) ?_
                            refine wa_pick [2, 3, 1, 0] rfl ?_
                            exact ih62 _ (by ((try simp only [vp_in_iff, Int32.lt_iff_toInt_lt, Int32.le_iff_toInt_le, ← Int32.toInt_inj, Int32.reduceToInt, n_1, n_2, n_8, Int32.toNatClampNeg, Int64.lt_iff_toInt_lt, Int64.le_iff_toInt_le, ← Int64.toInt_inj, Int64.reduceToInt, Int32.toInt_toInt64, lg_cmp_ge, lg_cmp_le, lg_cmp_gt, lg_cmp_lt, lg_cmp_eq, Bool.false_eq_true, Bool.true_eq_false, reduceCtorEq, false_iff, true_iff, iff_true, iff_false, and_true, true_and, and_false, false_and, reduceIte, ite_true, ite_false, eq_self] at *)) <;> omega) _ _ _ ⟨Fs102, ((Sm.gi fs102 10 (Or.inl (by decide))).trans (khi92_0)), ((Sm.gi fs102 11 (Or.inl (by decide))).trans (khi92_1)), ((Sm.gi fs102 13 (Or.inl (by decide))).trans (khi92_2)), (by ((try simp only [vp_in_iff, Int32.lt_iff_toInt_lt, Int32.le_iff_toInt_le, ← Int32.toInt_inj, Int32.reduceToInt, n_1, n_2, n_8, Int32.toNatClampNeg, Int64.lt_iff_toInt_lt, Int64.le_iff_toInt_le, ← Int64.toInt_inj, Int64.reduceToInt, Int32.toInt_toInt64, lg_cmp_ge, lg_cmp_le, lg_cmp_gt, lg_cmp_lt, lg_cmp_eq, Bool.false_eq_true, Bool.true_eq_false, reduceCtorEq, false_iff, true_iff, iff_true, iff_false, and_true, true_and, and_false, false_and, reduceIte, ite_true, ite_false, eq_self] at *)) <;> omega), (by first | assumption | (((try simp only [vp_in_iff, Int32.lt_iff_toInt_lt, Int32.le_iff_toInt_le, ← Int32.toInt_inj, Int32.reduceToInt, n_1, n_2, n_8, Int32.toNatClampNeg, Int64.lt_iff_toInt_lt, Int64.le_iff_toInt_le, ← Int64.toInt_inj, Int64.reduceToInt, Int32.toInt_toInt64, lg_cmp_ge, lg_cmp_le, lg_cmp_gt, lg_cmp_lt, lg_cmp_eq, Bool.false_eq_true, Bool.true_eq_false, reduceCtorEq, false_iff, true_iff, iff_true, iff_false, and_true, true_and, and_false, false_and, reduceIte, ite_true, ite_false, eq_self] at *)) <;> omega)), trivial⟩ rfl
                      · have mh93 := nle_mx h93
                        refine wa_iload_n (i := 3) rfl rfl ?_
                        refine wa_aload_n (i := 0) rfl rfl ?_
                        refine wa_aload_n (i := 1) rfl rfl ?_
                        refine wa_aload_n (i := 1) rfl rfl ?_
                        refine wa_iload rfl ?_
                        refine wa_iload rfl ?_
                        refine wa_Vi (d9 := d - 1) [.int _, .int _] [.ref 7, .ref 60, .int (bI l3)] (sp_X2_atomOf G (d := d - 1) (by omega) s90 _ _) (rfl) rfl rfl (zr (by omega)) mk_X2_atomOf ly_7 ml_9_75 (Nat.le_of_ble_eq_true rfl) (fun x106 s105 hs105 => ?_)
                        obtain ⟨zs105, -⟩ := pI hs105
                        subst zs105
                        refine wa_Vi (d9 := d - 1) [.ref 7, .int _] [.int (bI l3)] (sp_X9_takeAtom G (d := d - 1) (by omega) s90 _ (by first | assumption | exact Or.inl rfl | exact Or.inr rfl | (((try simp only [vp_in_iff, Int32.lt_iff_toInt_lt, Int32.le_iff_toInt_le, ← Int32.toInt_inj, Int32.reduceToInt, n_1, n_2, n_8, Int32.toNatClampNeg, Int64.lt_iff_toInt_lt, Int64.le_iff_toInt_le, ← Int64.toInt_inj, Int64.reduceToInt, Int32.toInt_toInt64, lg_cmp_ge, lg_cmp_le, lg_cmp_gt, lg_cmp_lt, lg_cmp_eq, Bool.false_eq_true, Bool.true_eq_false, reduceCtorEq, false_iff, true_iff, iff_true, iff_false, and_true, true_and, and_false, false_and, reduceIte, ite_true, ite_false, eq_self] at *)) <;> omega))) (rfl) rfl rfl (zr (by omega)) mk_X9_takeAtom ly_60 ml_9_78 (Nat.le_of_ble_eq_true rfl) (fun x108 s107 hs107 => ?_)
                        obtain ⟨bx108, ex108, fs107, cx108_1, -⟩ := pB hs107
                        subst ex108
                        have Fs107 := Sm.tr Fs90 (Sm.wd fs107 (lo' := 60) (hi' := 63) (by decide) (by decide))
                        refine wa_iand ?_
                        refine wa_rw (bI_and (a := l3) (b := bx108) rfl rfl) ?_
                        refine wa_istore_nD (lv' := [(3, .int (bI (l3 && bx108))), (0, .ref 60), (1, .ref 7), (4, .int l4), (5, .int x89), (6, .int l6)]) (i := 3) rfl (by decide) rfl ?_
                        refine wa_iinc (v := (1)) (lv' := fun y109 => [(6, .int y109), (3, .int (bI (l3 && bx108))), (0, .ref 60), (1, .ref 7), (4, .int l4), (5, .int x89)]) (by decide) rfl (by decide) (fun _ => rfl) (fun y109 hy109 => ?_)
                        have ty109 := i_addT hy109.symm
                        clear hy109
                        refine wa_goto o_X9_load_109 (by decide) ?_
                        refine wa_pick [2, 3, 1, 4, 5, 0] rfl ?_
                        exact ih91 _ (by ((try simp only [vp_in_iff, Int32.lt_iff_toInt_lt, Int32.le_iff_toInt_le, ← Int32.toInt_inj, Int32.reduceToInt, n_1, n_2, n_8, Int32.toNatClampNeg, Int64.lt_iff_toInt_lt, Int64.le_iff_toInt_le, ← Int64.toInt_inj, Int64.reduceToInt, Int32.toInt_toInt64, lg_cmp_ge, lg_cmp_le, lg_cmp_gt, lg_cmp_lt, lg_cmp_eq, Bool.false_eq_true, Bool.true_eq_false, reduceCtorEq, false_iff, true_iff, iff_true, iff_false, and_true, true_and, and_false, false_and, reduceIte, ite_true, ite_false, eq_self] at *)) <;> omega) _ _ _ ⟨Fs107, ((Sm.gi fs107 10 (Or.inl (by decide))).trans (khi92_0)), ((Sm.gi fs107 11 (Or.inl (by decide))).trans (khi92_1)), ((Sm.gi fs107 13 (Or.inl (by decide))).trans (khi92_2)), (by ((try simp only [vp_in_iff, Int32.lt_iff_toInt_lt, Int32.le_iff_toInt_le, ← Int32.toInt_inj, Int32.reduceToInt, n_1, n_2, n_8, Int32.toNatClampNeg, Int64.lt_iff_toInt_lt, Int64.le_iff_toInt_le, ← Int64.toInt_inj, Int64.reduceToInt, Int32.toInt_toInt64, lg_cmp_ge, lg_cmp_le, lg_cmp_gt, lg_cmp_lt, lg_cmp_eq, Bool.false_eq_true, Bool.true_eq_false, reduceCtorEq, false_iff, true_iff, iff_true, iff_false, and_true, true_and, and_false, false_and, reduceIte, ite_true, ite_false, eq_self] at *)) <;> omega), (by first | assumption | (((try simp only [vp_in_iff, Int32.lt_iff_toInt_lt, Int32.le_iff_toInt_le, ← Int32.toInt_inj, Int32.reduceToInt, n_1, n_2, n_8, Int32.toNatClampNeg, Int64.lt_iff_toInt_lt, Int64.le_iff_toInt_le, ← Int64.toInt_inj, Int64.reduceToInt, Int32.toInt_toInt64, lg_cmp_ge, lg_cmp_le, lg_cmp_gt, lg_cmp_lt, lg_cmp_eq, Bool.false_eq_true, Bool.true_eq_false, reduceCtorEq, false_iff, true_iff, iff_true, iff_false, and_true, true_and, and_false, false_and, reduceIte, ite_true, ite_false, eq_self] at *)) <;> omega)), trivial⟩ rfl
                  exact hi92 _ _ _ _ ⟨Fs61, (khi63_0), (khi63_1), (khi63_2), (by ((try simp only [vp_in_iff, Int32.lt_iff_toInt_lt, Int32.le_iff_toInt_le, ← Int32.toInt_inj, Int32.reduceToInt, n_1, n_2, n_8, Int32.toNatClampNeg, Int64.lt_iff_toInt_lt, Int64.le_iff_toInt_le, ← Int64.toInt_inj, Int64.reduceToInt, Int32.toInt_toInt64, lg_cmp_ge, lg_cmp_le, lg_cmp_gt, lg_cmp_lt, lg_cmp_eq, Bool.false_eq_true, Bool.true_eq_false, reduceCtorEq, false_iff, true_iff, iff_true, iff_false, and_true, true_and, and_false, false_and, reduceIte, ite_true, ite_false, eq_self] at *)) <;> omega), (by first | assumption | (((try simp only [vp_in_iff, Int32.lt_iff_toInt_lt, Int32.le_iff_toInt_le, ← Int32.toInt_inj, Int32.reduceToInt, n_1, n_2, n_8, Int32.toNatClampNeg, Int64.lt_iff_toInt_lt, Int64.le_iff_toInt_le, ← Int64.toInt_inj, Int64.reduceToInt, Int32.toInt_toInt64, lg_cmp_ge, lg_cmp_le, lg_cmp_gt, lg_cmp_lt, lg_cmp_eq, Bool.false_eq_true, Bool.true_eq_false, reduceCtorEq, false_iff, true_iff, iff_true, iff_false, and_true, true_and, and_false, false_and, reduceIte, ite_true, ite_false, eq_self] at *)) <;> omega)), trivial⟩ rfl
          exact hi63 _ _ _ _ ⟨Fs60, ((nx_gi_sl hs60).trans (khi7_1)), ((nx_gi_sl hs60).trans (khi7_2)), ((nx_gi_sl hs60).trans (khi7_3)), (by ((try simp only [vp_in_iff, Int32.lt_iff_toInt_lt, Int32.le_iff_toInt_le, ← Int32.toInt_inj, Int32.reduceToInt, n_1, n_2, n_8, Int32.toNatClampNeg, Int64.lt_iff_toInt_lt, Int64.le_iff_toInt_le, ← Int64.toInt_inj, Int64.reduceToInt, Int32.toInt_toInt64, lg_cmp_ge, lg_cmp_le, lg_cmp_gt, lg_cmp_lt, lg_cmp_eq, Bool.false_eq_true, Bool.true_eq_false, reduceCtorEq, false_iff, true_iff, iff_true, iff_false, and_true, true_and, and_false, false_and, reduceIte, ite_true, ite_false, eq_self] at *)) <;> omega), (by rw [(nx_gi_sl hs60).trans (khi7_0)]; first | assumption | (((try simp only [vp_in_iff, Int32.lt_iff_toInt_lt, Int32.le_iff_toInt_le, ← Int32.toInt_inj, Int32.reduceToInt, n_1, n_2, n_8, Int32.toNatClampNeg, Int64.lt_iff_toInt_lt, Int64.le_iff_toInt_le, ← Int64.toInt_inj, Int64.reduceToInt, Int32.toInt_toInt64, lg_cmp_ge, lg_cmp_le, lg_cmp_gt, lg_cmp_lt, lg_cmp_eq, Bool.false_eq_true, Bool.true_eq_false, reduceCtorEq, false_iff, true_iff, iff_true, iff_false, and_true, true_and, and_false, false_and, reduceIte, ite_true, ite_false, eq_self] at *)) <;> omega)), trivial⟩ rfl
      · have mh8 := nle_mx h8
        refine wa_iload_n (i := 3) rfl rfl ?_
        refine wa_aload_n (i := 2) rfl rfl ?_
        refine wa_alen ly_29 (by decide) ?_
        refine wa_rw (show Int32.ofNat 5 = 5 from rfl) ?_
        refine wa_icmp_ge o_X9_load_49 (by decide) (fun h110 => ?_) (fun h110 => ?_)
        · refine wa_aload_n (i := 0) rfl rfl ?_
          refine wa_aload_n (i := 2) rfl rfl ?_
          refine wa_alen ly_29 (by decide) ?_
          refine wa_rw (show Int32.ofNat 5 = 5 from rfl) ?_
          refine wa_iconst (v := 4) (by decide) ?_
          refine wa_icmp_le o_X9_load_62 (by decide) (fun h111 => ?_) (fun h111 => ?_)
          · refine wa_lconst (v := 0) (by decide) ?_
            refine wa_putl ck_9 fl_9_63 ly_60 (fun s112 hs112 => ?_)
            have Fs112 : Sm 60 63 σ s112 := by rw [hs112]; exact Sm.sl Fs5 _ _ (by decide) (by decide)
            refine wa_iconst (v := 1) (by decide) ?_
            refine wa_istore_nD (lv' := [(3, .int (bI true)), (0, .ref 60), (1, .ref 7), (2, .ref 29)]) (i := 3) rfl (by decide) rfl ?_
            refine wa_iconst (v := 0) (by decide) ?_
            refine wa_istoreD (lv' := [(4, .int 0), (3, .int (bI true)), (0, .ref 60), (1, .ref 7), (2, .ref 29)]) (by decide) rfl ?_
            refine wa_pick [2, 3, 1, 0] rfl ?_
            have hi115 : ∀ (n9_71 : Nat) (l3 : Bool) (l4 : Int32) (s113 : St), ((Sm 60 63 σ s113) ∧ (gi s113 7 10 = gi σ 7 10) ∧ (gi s113 7 11 = gi σ 7 11) ∧ (gi s113 7 13 = gi σ 7 13) ∧ (0 ≤ l4.toInt) ∧ (0 ≤ (gi s113 60 12).toInt ∧ (gi s113 60 12).toInt ≤ 4) ∧ (True)) → (2147483647 - l4.toInt).toNat = n9_71 → WA G M_X9_load (ZM G M_X9_load d (fun r σ' => ∃ x : Bool, r = some (.int (bI x)) ∧ Sm 60 63 σ σ' ∧ (0 ≤ (gi σ' 60 12).toInt ∧ (gi σ' 60 12).toInt ≤ 4) ∧ True)) B_X9_load_71 [(0, .ref 60), (1, .ref 7), (3, .int (bI l3)), (4, .int l4)] [] s113 := by
              intro n9_71
              induction n9_71 using Nat.strongRecOn with
              | _ n9_71 ih114 =>
                intro l3 l4 s113 i9 m9_71
                obtain ⟨Fs113, khi115_0, khi115_1, khi115_2, jhi115_0, jhi115_1, -⟩ := i9
                have ul4 := Int32.toInt_lt l4
                have wl4 := Int32.le_toInt l4
                refine wa_iload rfl ?_
                refine wa_aload_n (i := 1) rfl rfl ?_
                refine wa_geti ck_2 fl_9_66 ly_7 ?_
                refine wa_rw (khi115_1) ?_
                refine wa_icmp_ge o_X9_load_178 (by decide) (fun h116 => ?_) (fun h116 => ?_)
                · refine wa_iload_n (i := 3) rfl rfl ?_
                  refine wa_zreturn l3 (rfl) rfl rfl ?_
                  exact ⟨_, rfl, Fs113, (by first | assumption | (((try simp only [vp_in_iff, Int32.lt_iff_toInt_lt, Int32.le_iff_toInt_le, ← Int32.toInt_inj, Int32.reduceToInt, n_1, n_2, n_8, Int32.toNatClampNeg, Int64.lt_iff_toInt_lt, Int64.le_iff_toInt_le, ← Int64.toInt_inj, Int64.reduceToInt, Int32.toInt_toInt64, lg_cmp_ge, lg_cmp_le, lg_cmp_gt, lg_cmp_lt, lg_cmp_eq, Bool.false_eq_true, Bool.true_eq_false, reduceCtorEq, false_iff, true_iff, iff_true, iff_false, and_true, true_and, and_false, false_and, reduceIte, ite_true, ite_false, eq_self] at *)) <;> omega)), trivial⟩
                · have mh116 := nle_mx h116
                  refine wa_aload_n (i := 1) rfl rfl ?_
                  refine wa_geti ck_2 fl_9_69 ly_7 ?_
                  refine wa_rw (khi115_2) ?_
                  refine wa_iload rfl ?_
                  refine wa_iushr ?_
                  refine wa_top (fun v117 hv117 => ?_)
                  clear hv117
                  refine wa_iconst (v := 1) (by decide) ?_
                  refine wa_iand ?_
                  refine wa_top (fun v118 hv118 => ?_)
                  have tv118 := i_andT hv118
                  clear hv118
                  refine wa_iconst (v := 1) (by decide) ?_
                  refine wa_icmp_ne o_X9_load_103 (by decide) (fun h119 => ?_) (fun h119 => ?_)
                  · refine wa_iconst (v := 0) (by decide) ?_
                    refine wa_istoreD (lv' := [(5, .int 0), (0, .ref 60), (1, .ref 7), (3, .int (bI l3)), (4, .int l4)]) (by decide) rfl ?_
                    refine wa_iconst (v := 0) (by decide) ?_
                    refine wa_istoreD (lv' := [(6, .int 0), (5, .int 0), (0, .ref 60), (1, .ref 7), (3, .int (bI l3)), (4, .int l4)]) (by decide) rfl ?_
                    refine wa_pick [2, 3, 4, 5, 1, 0] rfl ?_
                    have hi122 : ∀ (n9_109 : Nat) (l3 : Bool) (l6 : Int32) (s120 : St), ((Sm 60 63 σ s120) ∧ (gi s120 7 10 = gi σ 7 10) ∧ (gi s120 7 11 = gi σ 7 11) ∧ (gi s120 7 13 = gi σ 7 13) ∧ (0 ≤ l6.toInt) ∧ (0 ≤ (gi s120 60 12).toInt ∧ (gi s120 60 12).toInt ≤ 4) ∧ (True)) → (2147483647 - l6.toInt).toNat = n9_109 → WA G M_X9_load (ZM G M_X9_load d (fun r σ' => ∃ x : Bool, r = some (.int (bI x)) ∧ Sm 60 63 σ σ' ∧ (0 ≤ (gi σ' 60 12).toInt ∧ (gi σ' 60 12).toInt ≤ 4) ∧ True)) B_X9_load_109 [(0, .ref 60), (1, .ref 7), (3, .int (bI l3)), (4, .int l4), (5, .int 0), (6, .int l6)] [] s120 := by
                      intro n9_109
                      induction n9_109 using Nat.strongRecOn with
                      | _ n9_109 ih121 =>
                        intro l3 l6 s120 i9 m9_109
                        obtain ⟨Fs120, khi122_0, khi122_1, khi122_2, jhi122_0, jhi122_1, -⟩ := i9
                        have ul6 := Int32.toInt_lt l6
                        have wl6 := Int32.le_toInt l6
                        refine wa_iload rfl ?_
                        refine wa_iload rfl ?_
                        refine wa_icmp_ge o_X9_load_138 (by decide) (fun h123 => ?_) (fun h123 => ?_)
                        · refine wa_aload_n (i := 1) rfl rfl ?_
                          refine wa_geti ck_2 fl_9_69 ly_7 ?_
                          refine wa_rw (khi122_2) ?_
                          refine wa_iload rfl ?_
                          refine wa_iushr ?_
                          refine wa_top (fun v124 hv124 => ?_)
                          clear hv124
                          refine wa_iconst (v := 1) (by decide) ?_
                          refine wa_iand ?_
                          refine wa_top (fun v125 hv125 => ?_)
                          have tv125 := i_andT hv125
                          clear hv125
                          refine wa_iconst (v := 1) (by decide) ?_
                          refine wa_icmp_ne o_X9_load_172 (by decide) (fun h126 => ?_) (fun h126 => ?_)
                          · refine wa_iinc (v := (1)) (lv' := fun y127 => [(4, .int y127), (0, .ref 60), (1, .ref 7), (3, .int (bI l3)), (5, .int 0), (6, .int l6)]) (by decide) rfl (by decide) (fun _ => rfl) (fun y127 hy127 => ?_)
                            have ty127 := i_addT hy127.symm
                            clear hy127
                            refine wa_goto o_X9_load_71 (by decide) ?_
                            refine wa_pick [1, 2, 3, 0] rfl ?_
                            exact ih114 _ (by ((try simp only [vp_in_iff, Int32.lt_iff_toInt_lt, Int32.le_iff_toInt_le, ← Int32.toInt_inj, Int32.reduceToInt, n_1, n_2, n_8, Int32.toNatClampNeg, Int64.lt_iff_toInt_lt, Int64.le_iff_toInt_le, ← Int64.toInt_inj, Int64.reduceToInt, Int32.toInt_toInt64, lg_cmp_ge, lg_cmp_le, lg_cmp_gt, lg_cmp_lt, lg_cmp_eq, Bool.false_eq_true, Bool.true_eq_false, reduceCtorEq, false_iff, true_iff, iff_true, iff_false, and_true, true_and, and_false, false_and, reduceIte, ite_true, ite_false, eq_self] at *)) <;> omega) _ _ _ ⟨Fs120, (khi122_0), (khi122_1), (khi122_2), (by ((try simp only [vp_in_iff, Int32.lt_iff_toInt_lt, Int32.le_iff_toInt_le, ← Int32.toInt_inj, Int32.reduceToInt, n_1, n_2, n_8, Int32.toNatClampNeg, Int64.lt_iff_toInt_lt, Int64.le_iff_toInt_le, ← Int64.toInt_inj, Int64.reduceToInt, Int32.toInt_toInt64, lg_cmp_ge, lg_cmp_le, lg_cmp_gt, lg_cmp_lt, lg_cmp_eq, Bool.false_eq_true, Bool.true_eq_false, reduceCtorEq, false_iff, true_iff, iff_true, iff_false, and_true, true_and, and_false, false_and, reduceIte, ite_true, ite_false, eq_self] at *)) <;> omega), (by first | assumption | (((try simp only [vp_in_iff, Int32.lt_iff_toInt_lt, Int32.le_iff_toInt_le, ← Int32.toInt_inj, Int32.reduceToInt, n_1, n_2, n_8, Int32.toNatClampNeg, Int64.lt_iff_toInt_lt, Int64.le_iff_toInt_le, ← Int64.toInt_inj, Int64.reduceToInt, Int32.toInt_toInt64, lg_cmp_ge, lg_cmp_le, lg_cmp_gt, lg_cmp_lt, lg_cmp_eq, Bool.false_eq_true, Bool.true_eq_false, reduceCtorEq, false_iff, true_iff, iff_true, iff_false, and_true, true_and, and_false, false_and, reduceIte, ite_true, ite_false, eq_self] at *)) <;> omega)), trivial⟩ rfl
                          · refine wa_aload_n (i := 1) rfl rfl ?_
                            refine wa_iload rfl ?_
                            refine wa_bipush (v := 6) (by decide) ?_
                            refine wa_Vi (d9 := d - 1) [.int _, .int _] [] (sp_X2_fact G (d := d - 1) (by omega) s120 _ _) (rfl) rfl rfl (zr (by omega)) mk_X2_fact ly_7 ml_9_72 (Nat.le_of_ble_eq_true rfl) (fun x129 s128 hs128 => ?_)
                            obtain ⟨zs128, -⟩ := pI hs128
                            subst zs128
                            refine wa_iconst (v := 1) (by decide) ?_
                            refine wa_icmp_ne o_X9_load_172 (by decide) (fun h130 => ?_) (fun h130 => ?_)
                            · refine wa_iinc (v := (1)) (lv' := fun y131 => [(4, .int y131), (0, .ref 60), (1, .ref 7), (3, .int (bI l3)), (5, .int 0), (6, .int l6)]) (by decide) rfl (by decide) (fun _ => rfl) (fun y131 hy131 => ?_)
                              have ty131 := i_addT hy131.symm
                              clear hy131
                              refine wa_goto o_X9_load_71 (by decide) ?_
                              refine wa_pick [1, 2, 3, 0] rfl ?_
                              exact ih114 _ (by ((try simp only [vp_in_iff, Int32.lt_iff_toInt_lt, Int32.le_iff_toInt_le, ← Int32.toInt_inj, Int32.reduceToInt, n_1, n_2, n_8, Int32.toNatClampNeg, Int64.lt_iff_toInt_lt, Int64.le_iff_toInt_le, ← Int64.toInt_inj, Int64.reduceToInt, Int32.toInt_toInt64, lg_cmp_ge, lg_cmp_le, lg_cmp_gt, lg_cmp_lt, lg_cmp_eq, Bool.false_eq_true, Bool.true_eq_false, reduceCtorEq, false_iff, true_iff, iff_true, iff_false, and_true, true_and, and_false, false_and, reduceIte, ite_true, ite_false, eq_self] at *)) <;> omega) _ _ _ ⟨Fs120, (khi122_0), (khi122_1), (khi122_2), (by ((try simp only [vp_in_iff, Int32.lt_iff_toInt_lt, Int32.le_iff_toInt_le, ← Int32.toInt_inj, Int32.reduceToInt, n_1, n_2, n_8, Int32.toNatClampNeg, Int64.lt_iff_toInt_lt, Int64.le_iff_toInt_le, ← Int64.toInt_inj, Int64.reduceToInt, Int32.toInt_toInt64, lg_cmp_ge, lg_cmp_le, lg_cmp_gt, lg_cmp_lt, lg_cmp_eq, Bool.false_eq_true, Bool.true_eq_false, reduceCtorEq, false_iff, true_iff, iff_true, iff_false, and_true, true_and, and_false, false_and, reduceIte, ite_true, ite_false, eq_self] at *)) <;> omega), (by first | assumption | (((try simp only [vp_in_iff, Int32.lt_iff_toInt_lt, Int32.le_iff_toInt_le, ← Int32.toInt_inj, Int32.reduceToInt, n_1, n_2, n_8, Int32.toNatClampNeg, Int64.lt_iff_toInt_lt, Int64.le_iff_toInt_le, ← Int64.toInt_inj, Int64.reduceToInt, Int32.toInt_toInt64, lg_cmp_ge, lg_cmp_le, lg_cmp_gt, lg_cmp_lt, lg_cmp_eq, Bool.false_eq_true, Bool.true_eq_false, reduceCtorEq, false_iff, true_iff, iff_true, iff_false, and_true, true_and, and_false, false_and, reduceIte, ite_true, ite_false, eq_self] at *)) <;> omega)), trivial⟩ rfl
                            · refine wa_iload_n (i := 3) rfl rfl ?_
                              refine wa_aload_n (i := 0) rfl rfl ?_
                              refine wa_aload_n (i := 1) rfl rfl ?_
                              refine wa_iconst (v := (-1)) (by decide) ?_
                              refine wa_Vi (d9 := d - 1) [.ref 7, .int _] [.int (bI l3)] (sp_X9_takeAtom G (d := d - 1) (by omega) s120 _ (by first | assumption | exact Or.inl rfl | exact Or.inr rfl | (((try simp only [vp_in_iff, Int32.lt_iff_toInt_lt, Int32.le_iff_toInt_le, ← Int32.toInt_inj, Int32.reduceToInt, n_1, n_2, n_8, Int32.toNatClampNeg, Int64.lt_iff_toInt_lt, Int64.le_iff_toInt_le, ← Int64.toInt_inj, Int64.reduceToInt, Int32.toInt_toInt64, lg_cmp_ge, lg_cmp_le, lg_cmp_gt, lg_cmp_lt, lg_cmp_eq, Bool.false_eq_true, Bool.true_eq_false, reduceCtorEq, false_iff, true_iff, iff_true, iff_false, and_true, true_and, and_false, false_and, reduceIte, ite_true, ite_false, eq_self] at *)) <;> omega))) (rfl) rfl rfl (zr (by omega)) mk_X9_takeAtom ly_60 ml_9_78 (Nat.le_of_ble_eq_true rfl) (fun x133 s132 hs132 => ?_)
                              obtain ⟨bx133, ex133, fs132, cx133_1, -⟩ := pB hs132
                              subst ex133
                              have Fs132 := Sm.tr Fs120 (Sm.wd fs132 (lo' := 60) (hi' := 63) (by decide) (by decide))
                              refine wa_iand ?_
                              refine wa_rw (bI_and (a := l3) (b := bx133) rfl rfl) ?_
                              refine wa_istore_nD (lv' := [(3, .int (bI (l3 && bx133))), (0, .ref 60), (1, .ref 7), (4, .int l4), (5, .int 0), (6, .int l6)]) (i := 3) rfl (by decide) rfl ?_
                              refine wa_iinc (v := (1)) (lv' := fun y134 => [(4, .int y134), (3, .int (bI (l3 && bx133))), (0, .ref 60), (1, .ref 7), (5, .int 0), (6, .int l6)]) (by decide) rfl (by decide) (fun _ => rfl) (fun y134 hy134 => ?_)
                              have ty134 := i_addT hy134.symm
                              clear hy134
                              refine wa_goto o_X9_load_71 (by decide) ?_
                              refine wa_pick [2, 3, 1, 0] rfl ?_
                              exact ih114 _ (by ((try simp only [vp_in_iff, Int32.lt_iff_toInt_lt, Int32.le_iff_toInt_le, ← Int32.toInt_inj, Int32.reduceToInt, n_1, n_2, n_8, Int32.toNatClampNeg, Int64.lt_iff_toInt_lt, Int64.le_iff_toInt_le, ← Int64.toInt_inj, Int64.reduceToInt, Int32.toInt_toInt64, lg_cmp_ge, lg_cmp_le, lg_cmp_gt, lg_cmp_lt, lg_cmp_eq, Bool.false_eq_true, Bool.true_eq_false, reduceCtorEq, false_iff, true_iff, iff_true, iff_false, and_true, true_and, and_false, false_and, reduceIte, ite_true, ite_false, eq_self] at *)) <;> omega) _ _ _ ⟨Fs132, ((Sm.gi fs132 10 (Or.inl (by decide))).trans (khi122_0)), ((Sm.gi fs132 11 (Or.inl (by decide))).trans (khi122_1)), ((Sm.gi fs132 13 (Or.inl (by decide))).trans (khi122_2)), (by ((try simp only [vp_in_iff, Int32.lt_iff_toInt_lt, Int32.le_iff_toInt_le, ← Int32.toInt_inj, Int32.reduceToInt, n_1, n_2, n_8, Int32.toNatClampNeg, Int64.lt_iff_toInt_lt, Int64.le_iff_toInt_le, ← Int64.toInt_inj, Int64.reduceToInt, Int32.toInt_toInt64, lg_cmp_ge, lg_cmp_le, lg_cmp_gt, lg_cmp_lt, lg_cmp_eq, Bool.false_eq_true, Bool.true_eq_false, reduceCtorEq, false_iff, true_iff, iff_true, iff_false, and_true, true_and, and_false, false_and, reduceIte, ite_true, ite_false, eq_self] at *)) <;> omega), (by first | assumption | (((try simp only [vp_in_iff, Int32.lt_iff_toInt_lt, Int32.le_iff_toInt_le, ← Int32.toInt_inj, Int32.reduceToInt, n_1, n_2, n_8, Int32.toNatClampNeg, Int64.lt_iff_toInt_lt, Int64.le_iff_toInt_le, ← Int64.toInt_inj, Int64.reduceToInt, Int32.toInt_toInt64, lg_cmp_ge, lg_cmp_le, lg_cmp_gt, lg_cmp_lt, lg_cmp_eq, Bool.false_eq_true, Bool.true_eq_false, reduceCtorEq, false_iff, true_iff, iff_true, iff_false, and_true, true_and, and_false, false_and, reduceIte, ite_true, ite_false, eq_self] at *)) <;> omega)), trivial⟩ rfl
                        · have mh123 := nle_mx h123
                          refine wa_iload_n (i := 3) rfl rfl ?_
                          refine wa_aload_n (i := 0) rfl rfl ?_
                          refine wa_aload_n (i := 1) rfl rfl ?_
                          refine wa_aload_n (i := 1) rfl rfl ?_
                          refine wa_iload rfl ?_
                          refine wa_iload rfl ?_
                          refine wa_Vi (d9 := d - 1) [.int _, .int _] [.ref 7, .ref 60, .int (bI l3)] (sp_X2_atomOf G (d := d - 1) (by omega) s120 _ _) (rfl) rfl rfl (zr (by omega)) mk_X2_atomOf ly_7 ml_9_75 (Nat.le_of_ble_eq_true rfl) (fun x136 s135 hs135 => ?_)
                          obtain ⟨zs135, -⟩ := pI hs135
                          subst zs135
                          refine wa_Vi (d9 := d - 1) [.ref 7, .int _] [.int (bI l3)] (sp_X9_takeAtom G (d := d - 1) (by omega) s120 _ (by first | assumption | exact Or.inl rfl | exact Or.inr rfl | (((try simp only [vp_in_iff, Int32.lt_iff_toInt_lt, Int32.le_iff_toInt_le, ← Int32.toInt_inj, Int32.reduceToInt, n_1, n_2, n_8, Int32.toNatClampNeg, Int64.lt_iff_toInt_lt, Int64.le_iff_toInt_le, ← Int64.toInt_inj, Int64.reduceToInt, Int32.toInt_toInt64, lg_cmp_ge, lg_cmp_le, lg_cmp_gt, lg_cmp_lt, lg_cmp_eq, Bool.false_eq_true, Bool.true_eq_false, reduceCtorEq, false_iff, true_iff, iff_true, iff_false, and_true, true_and, and_false, false_and, reduceIte, ite_true, ite_false, eq_self] at *)) <;> omega))) (rfl) rfl rfl (zr (by omega)) mk_X9_takeAtom ly_60 ml_9_78 (Nat.le_of_ble_eq_true rfl) (fun x138 s137 hs137 => ?_)
                          obtain ⟨bx138, ex138, fs137, cx138_1, -⟩ := pB hs137
                          subst ex138
                          have Fs137 := Sm.tr Fs120 (Sm.wd fs137 (lo' := 60) (hi' := 63) (by decide) (by decide))
                          refine wa_iand ?_
                          refine wa_rw (bI_and (a := l3) (b := bx138) rfl rfl) ?_
                          refine wa_istore_nD (lv' := [(3, .int (bI (l3 && bx138))), (0, .ref 60), (1, .ref 7), (4, .int l4), (5, .int 0), (6, .int l6)]) (i := 3) rfl (by decide) rfl ?_
                          refine wa_iinc (v := (1)) (lv' := fun y139 => [(6, .int y139), (3, .int (bI (l3 && bx138))), (0, .ref 60), (1, .ref 7), (4, .int l4), (5, .int 0)]) (by decide) rfl (by decide) (fun _ => rfl) (fun y139 hy139 => ?_)
                          have ty139 := i_addT hy139.symm
                          clear hy139
                          refine wa_goto o_X9_load_109 (by decide) ?_
                          refine wa_pick [2, 3, 1, 4, 5, 0] rfl ?_
                          exact ih121 _ (by ((try simp only [vp_in_iff, Int32.lt_iff_toInt_lt, Int32.le_iff_toInt_le, ← Int32.toInt_inj, Int32.reduceToInt, n_1, n_2, n_8, Int32.toNatClampNeg, Int64.lt_iff_toInt_lt, Int64.le_iff_toInt_le, ← Int64.toInt_inj, Int64.reduceToInt, Int32.toInt_toInt64, lg_cmp_ge, lg_cmp_le, lg_cmp_gt, lg_cmp_lt, lg_cmp_eq, Bool.false_eq_true, Bool.true_eq_false, reduceCtorEq, false_iff, true_iff, iff_true, iff_false, and_true, true_and, and_false, false_and, reduceIte, ite_true, ite_false, eq_self] at *)) <;> omega) _ _ _ ⟨Fs137, ((Sm.gi fs137 10 (Or.inl (by decide))).trans (khi122_0)), ((Sm.gi fs137 11 (Or.inl (by decide))).trans (khi122_1)), ((Sm.gi fs137 13 (Or.inl (by decide))).trans (khi122_2)), (by ((try simp only [vp_in_iff, Int32.lt_iff_toInt_lt, Int32.le_iff_toInt_le, ← Int32.toInt_inj, Int32.reduceToInt, n_1, n_2, n_8, Int32.toNatClampNeg, Int64.lt_iff_toInt_lt, Int64.le_iff_toInt_le, ← Int64.toInt_inj, Int64.reduceToInt, Int32.toInt_toInt64, lg_cmp_ge, lg_cmp_le, lg_cmp_gt, lg_cmp_lt, lg_cmp_eq, Bool.false_eq_true, Bool.true_eq_false, reduceCtorEq, false_iff, true_iff, iff_true, iff_false, and_true, true_and, and_false, false_and, reduceIte, ite_true, ite_false, eq_self] at *)) <;> omega), (by first | assumption | (((try simp only [vp_in_iff, Int32.lt_iff_toInt_lt, Int32.le_iff_toInt_le, ← Int32.toInt_inj, Int32.reduceToInt, n_1, n_2, n_8, Int32.toNatClampNeg, Int64.lt_iff_toInt_lt, Int64.le_iff_toInt_le, ← Int64.toInt_inj, Int64.reduceToInt, Int32.toInt_toInt64, lg_cmp_ge, lg_cmp_le, lg_cmp_gt, lg_cmp_lt, lg_cmp_eq, Bool.false_eq_true, Bool.true_eq_false, reduceCtorEq, false_iff, true_iff, iff_true, iff_false, and_true, true_and, and_false, false_and, reduceIte, ite_true, ite_false, eq_self] at *)) <;> omega)), trivial⟩ rfl
                    exact hi122 _ _ _ _ ⟨Fs113, (khi115_0), (khi115_1), (khi115_2), (by ((try simp only [vp_in_iff, Int32.lt_iff_toInt_lt, Int32.le_iff_toInt_le, ← Int32.toInt_inj, Int32.reduceToInt, n_1, n_2, n_8, Int32.toNatClampNeg, Int64.lt_iff_toInt_lt, Int64.le_iff_toInt_le, ← Int64.toInt_inj, Int64.reduceToInt, Int32.toInt_toInt64, lg_cmp_ge, lg_cmp_le, lg_cmp_gt, lg_cmp_lt, lg_cmp_eq, Bool.false_eq_true, Bool.true_eq_false, reduceCtorEq, false_iff, true_iff, iff_true, iff_false, and_true, true_and, and_false, false_and, reduceIte, ite_true, ite_false, eq_self] at *)) <;> omega), (by first | assumption | (((try simp only [vp_in_iff, Int32.lt_iff_toInt_lt, Int32.le_iff_toInt_le, ← Int32.toInt_inj, Int32.reduceToInt, n_1, n_2, n_8, Int32.toNatClampNeg, Int64.lt_iff_toInt_lt, Int64.le_iff_toInt_le, ← Int64.toInt_inj, Int64.reduceToInt, Int32.toInt_toInt64, lg_cmp_ge, lg_cmp_le, lg_cmp_gt, lg_cmp_lt, lg_cmp_eq, Bool.false_eq_true, Bool.true_eq_false, reduceCtorEq, false_iff, true_iff, iff_true, iff_false, and_true, true_and, and_false, false_and, reduceIte, ite_true, ite_false, eq_self] at *)) <;> omega)), trivial⟩ rfl
                  · refine wa_aload_n (i := 1) rfl rfl ?_
                    refine wa_iload rfl ?_
                    refine wa_iconst (v := 4) (by decide) ?_
                    refine wa_Vi (d9 := d - 1) [.int _, .int _] [] (sp_X2_fact G (d := d - 1) (by omega) s113 _ _) (rfl) rfl rfl (zr (by omega)) mk_X2_fact ly_7 ml_9_72 (Nat.le_of_ble_eq_true rfl) (fun x141 s140 hs140 => ?_)
                    obtain ⟨zs140, -⟩ := pI hs140
                    subst zs140
                    refine wa_goto o_X9_load_104 (by decide) ?_
                    refine wa_istoreD (lv' := [(5, .int x141), (0, .ref 60), (1, .ref 7), (3, .int (bI l3)), (4, .int l4)]) (by decide) rfl ?_
                    refine wa_iconst (v := 0) (by decide) ?_
                    refine wa_istoreD (lv' := [(6, .int 0), (5, .int x141), (0, .ref 60), (1, .ref 7), (3, .int (bI l3)), (4, .int l4)]) (by decide) rfl ?_
                    refine wa_pick [2, 3, 4, 5, 1, 0] rfl ?_
                    have hi144 : ∀ (n9_109 : Nat) (l3 : Bool) (l6 : Int32) (s142 : St), ((Sm 60 63 σ s142) ∧ (gi s142 7 10 = gi σ 7 10) ∧ (gi s142 7 11 = gi σ 7 11) ∧ (gi s142 7 13 = gi σ 7 13) ∧ (0 ≤ l6.toInt) ∧ (0 ≤ (gi s142 60 12).toInt ∧ (gi s142 60 12).toInt ≤ 4) ∧ (True)) → (2147483647 - l6.toInt).toNat = n9_109 → WA G M_X9_load (ZM G M_X9_load d (fun r σ' => ∃ x : Bool, r = some (.int (bI x)) ∧ Sm 60 63 σ σ' ∧ (0 ≤ (gi σ' 60 12).toInt ∧ (gi σ' 60 12).toInt ≤ 4) ∧ True)) B_X9_load_109 [(0, .ref 60), (1, .ref 7), (3, .int (bI l3)), (4, .int l4), (5, .int x141), (6, .int l6)] [] s142 := by
                      intro n9_109
                      induction n9_109 using Nat.strongRecOn with
                      | _ n9_109 ih143 =>
                        intro l3 l6 s142 i9 m9_109
                        obtain ⟨Fs142, khi144_0, khi144_1, khi144_2, jhi144_0, jhi144_1, -⟩ := i9
                        have ul6 := Int32.toInt_lt l6
                        have wl6 := Int32.le_toInt l6
                        refine wa_iload rfl ?_
                        refine wa_iload rfl ?_
                        refine wa_icmp_ge o_X9_load_138 (by decide) (fun h145 => ?_) (fun h145 => ?_)
                        · refine wa_aload_n (i := 1) rfl rfl ?_
                          refine wa_geti ck_2 fl_9_69 ly_7 ?_
                          refine wa_rw (khi144_2) ?_
                          refine wa_iload rfl ?_
                          refine wa_iushr ?_
                          refine wa_top (fun v146 hv146 => ?_)
                          clear hv146
                          refine wa_iconst (v := 1) (by decide) ?_
                          refine wa_iand ?_
                          refine wa_top (fun v147 hv147 => ?_)
                          have tv147 := i_andT hv147
                          clear hv147
                          refine wa_iconst (v := 1) (by decide) ?_
                          refine wa_icmp_ne o_X9_load_172 (by decide) (fun h148 => ?_) (fun h148 => ?_)
                          · refine wa_iinc (v := (1)) (lv' := fun y149 => [(4, .int y149), (0, .ref 60), (1, .ref 7), (3, .int (bI l3)), (5, .int x141), (6, .int l6)]) (by decide) rfl (by decide) (fun _ => rfl) (fun y149 hy149 => ?_)
                            have ty149 := i_addT hy149.symm
                            clear hy149
                            refine wa_goto o_X9_load_71 (by decide) ?_
                            refine wa_pick [1, 2, 3, 0] rfl ?_
                            exact ih114 _ (by ((try simp only [vp_in_iff, Int32.lt_iff_toInt_lt, Int32.le_iff_toInt_le, ← Int32.toInt_inj, Int32.reduceToInt, n_1, n_2, n_8, Int32.toNatClampNeg, Int64.lt_iff_toInt_lt, Int64.le_iff_toInt_le, ← Int64.toInt_inj, Int64.reduceToInt, Int32.toInt_toInt64, lg_cmp_ge, lg_cmp_le, lg_cmp_gt, lg_cmp_lt, lg_cmp_eq, Bool.false_eq_true, Bool.true_eq_false, reduceCtorEq, false_iff, true_iff, iff_true, iff_false, and_true, true_and, and_false, false_and, reduceIte, ite_true, ite_false, eq_self] at *)) <;> omega) _ _ _ ⟨Fs142, (khi144_0), (khi144_1), (khi144_2), (by ((try simp only [vp_in_iff, Int32.lt_iff_toInt_lt, Int32.le_iff_toInt_le, ← Int32.toInt_inj, Int32.reduceToInt, n_1, n_2, n_8, Int32.toNatClampNeg, Int64.lt_iff_toInt_lt, Int64.le_iff_toInt_le, ← Int64.toInt_inj, Int64.reduceToInt, Int32.toInt_toInt64, lg_cmp_ge, lg_cmp_le, lg_cmp_gt, lg_cmp_lt, lg_cmp_eq, Bool.false_eq_true, Bool.true_eq_false, reduceCtorEq, false_iff, true_iff, iff_true, iff_false, and_true, true_and, and_false, false_and, reduceIte, ite_true, ite_false, eq_self] at *)) <;> omega), (by first | assumption | (((try simp only [vp_in_iff, Int32.lt_iff_toInt_lt, Int32.le_iff_toInt_le, ← Int32.toInt_inj, Int32.reduceToInt, n_1, n_2, n_8, Int32.toNatClampNeg, Int64.lt_iff_toInt_lt, Int64.le_iff_toInt_le, ← Int64.toInt_inj, Int64.reduceToInt, Int32.toInt_toInt64, lg_cmp_ge, lg_cmp_le, lg_cmp_gt, lg_cmp_lt, lg_cmp_eq, Bool.false_eq_true, Bool.true_eq_false, reduceCtorEq, false_iff, true_iff, iff_true, iff_false, and_true, true_and, and_false, false_and, reduceIte, ite_true, ite_false, eq_self] at *)) <;> omega)), trivial⟩ rfl
                          · refine wa_aload_n (i := 1) rfl rfl ?_
                            refine wa_iload rfl ?_
                            refine wa_bipush (v := 6) (by decide) ?_
                            refine wa_Vi (d9 := d - 1) [.int _, .int _] [] (sp_X2_fact G (d := d - 1) (by omega) s142 _ _) (rfl) rfl rfl (zr (by omega)) mk_X2_fact ly_7 ml_9_72 (Nat.le_of_ble_eq_true rfl) (fun x151 s150 hs150 => ?_)
                            obtain ⟨zs150, -⟩ := pI hs150
                            subst zs150
                            refine wa_iconst (v := 1) (by decide) ?_
                            refine wa_icmp_ne o_X9_load_172 (by decide) (fun h152 => ?_) (fun h152 => ?_)
                            · refine wa_iinc (v := (1)) (lv' := fun y153 => [(4, .int y153), (0, .ref 60), (1, .ref 7), (3, .int (bI l3)), (5, .int x141), (6, .int l6)]) (by decide) rfl (by decide) (fun _ => rfl) (fun y153 hy153 => ?_)
                              have ty153 := i_addT hy153.symm
                              clear hy153
                              refine wa_goto o_X9_load_71 (by decide) ?_
                              refine wa_pick [1, 2, 3, 0] rfl ?_
                              exact ih114 _ (by ((try simp only [vp_in_iff, Int32.lt_iff_toInt_lt, Int32.le_iff_toInt_le, ← Int32.toInt_inj, Int32.reduceToInt, n_1, n_2, n_8, Int32.toNatClampNeg, Int64.lt_iff_toInt_lt, Int64.le_iff_toInt_le, ← Int64.toInt_inj, Int64.reduceToInt, Int32.toInt_toInt64, lg_cmp_ge, lg_cmp_le, lg_cmp_gt, lg_cmp_lt, lg_cmp_eq, Bool.false_eq_true, Bool.true_eq_false, reduceCtorEq, false_iff, true_iff, iff_true, iff_false, and_true, true_and, and_false, false_and, reduceIte, ite_true, ite_false, eq_self] at *)) <;> omega) _ _ _ ⟨Fs142, (khi144_0), (khi144_1), (khi144_2), (by ((try simp only [vp_in_iff, Int32.lt_iff_toInt_lt, Int32.le_iff_toInt_le, ← Int32.toInt_inj, Int32.reduceToInt, n_1, n_2, n_8, Int32.toNatClampNeg, Int64.lt_iff_toInt_lt, Int64.le_iff_toInt_le, ← Int64.toInt_inj, Int64.reduceToInt, Int32.toInt_toInt64, lg_cmp_ge, lg_cmp_le, lg_cmp_gt, lg_cmp_lt, lg_cmp_eq, Bool.false_eq_true, Bool.true_eq_false, reduceCtorEq, false_iff, true_iff, iff_true, iff_false, and_true, true_and, and_false, false_and, reduceIte, ite_true, ite_false, eq_self] at *)) <;> omega), (by first | assumption | (((try simp only [vp_in_iff, Int32.lt_iff_toInt_lt, Int32.le_iff_toInt_le, ← Int32.toInt_inj, Int32.reduceToInt, n_1, n_2, n_8, Int32.toNatClampNeg, Int64.lt_iff_toInt_lt, Int64.le_iff_toInt_le, ← Int64.toInt_inj, Int64.reduceToInt, Int32.toInt_toInt64, lg_cmp_ge, lg_cmp_le, lg_cmp_gt, lg_cmp_lt, lg_cmp_eq, Bool.false_eq_true, Bool.true_eq_false, reduceCtorEq, false_iff, true_iff, iff_true, iff_false, and_true, true_and, and_false, false_and, reduceIte, ite_true, ite_false, eq_self] at *)) <;> omega)), trivial⟩ rfl
                            · refine wa_iload_n (i := 3) rfl rfl ?_
                              refine wa_aload_n (i := 0) rfl rfl ?_
                              refine wa_aload_n (i := 1) rfl rfl ?_
                              refine wa_iconst (v := (-1)) (by decide) ?_
                              refine wa_Vi (d9 := d - 1) [.ref 7, .int _] [.int (bI l3)] (sp_X9_takeAtom G (d := d - 1) (by omega) s142 _ (by first | assumption | exact Or.inl rfl | exact Or.inr rfl | (((try simp only [vp_in_iff, Int32.lt_iff_toInt_lt, Int32.le_iff_toInt_le, ← Int32.toInt_inj, Int32.reduceToInt, n_1, n_2, n_8, Int32.toNatClampNeg, Int64.lt_iff_toInt_lt, Int64.le_iff_toInt_le, ← Int64.toInt_inj, Int64.reduceToInt, Int32.toInt_toInt64, lg_cmp_ge, lg_cmp_le, lg_cmp_gt, lg_cmp_lt, lg_cmp_eq, Bool.false_eq_true, Bool.true_eq_false, reduceCtorEq, false_iff, true_iff, iff_true, iff_false, and_true, true_and, and_false, false_and, reduceIte, ite_true, ite_false, eq_self] at *)) <;> omega))) (rfl) rfl rfl (zr (by omega)) mk_X9_takeAtom ly_60 ml_9_78 (Nat.le_of_ble_eq_true rfl) (fun x155 s154 hs154 => ?_)
                              obtain ⟨bx155, ex155, fs154, cx155_1, -⟩ := pB hs154
                              subst ex155
                              have Fs154 := Sm.tr Fs142 (Sm.wd fs154 (lo' := 60) (hi' := 63) (by decide) (by decide))
                              refine wa_iand ?_
                              refine wa_rw (bI_and (a := l3) (b := bx155) rfl rfl) ?_
                              refine wa_istore_nD (lv' := [(3, .int (bI (l3 && bx155))), (0, .ref 60), (1, .ref 7), (4, .int l4), (5, .int x141), (6, .int l6)]) (i := 3) rfl (by decide) rfl ?_
                              refine wa_iinc (v := (1)) (lv' := fun y156 => [(4, .int y156), (3, .int (bI (l3 && bx155))), (0, .ref 60), (1, .ref 7), (5, .int x141), (6, .int l6)]) (by decide) rfl (by decide) (fun _ => rfl) (fun y156 hy156 => ?_)
                              have ty156 := i_addT hy156.symm
                              clear hy156
                              refine wa_goto o_X9_load_71 (by decide) ?_
                              refine wa_pick [2, 3, 1, 0] rfl ?_
                              exact ih114 _ (by ((try simp only [vp_in_iff, Int32.lt_iff_toInt_lt, Int32.le_iff_toInt_le, ← Int32.toInt_inj, Int32.reduceToInt, n_1, n_2, n_8, Int32.toNatClampNeg, Int64.lt_iff_toInt_lt, Int64.le_iff_toInt_le, ← Int64.toInt_inj, Int64.reduceToInt, Int32.toInt_toInt64, lg_cmp_ge, lg_cmp_le, lg_cmp_gt, lg_cmp_lt, lg_cmp_eq, Bool.false_eq_true, Bool.true_eq_false, reduceCtorEq, false_iff, true_iff, iff_true, iff_false, and_true, true_and, and_false, false_and, reduceIte, ite_true, ite_false, eq_self] at *)) <;> omega) _ _ _ ⟨Fs154, ((Sm.gi fs154 10 (Or.inl (by decide))).trans (khi144_0)), ((Sm.gi fs154 11 (Or.inl (by decide))).trans (khi144_1)), ((Sm.gi fs154 13 (Or.inl (by decide))).trans (khi144_2)), (by ((try simp only [vp_in_iff, Int32.lt_iff_toInt_lt, Int32.le_iff_toInt_le, ← Int32.toInt_inj, Int32.reduceToInt, n_1, n_2, n_8, Int32.toNatClampNeg, Int64.lt_iff_toInt_lt, Int64.le_iff_toInt_le, ← Int64.toInt_inj, Int64.reduceToInt, Int32.toInt_toInt64, lg_cmp_ge, lg_cmp_le, lg_cmp_gt, lg_cmp_lt, lg_cmp_eq, Bool.false_eq_true, Bool.true_eq_false, reduceCtorEq, false_iff, true_iff, iff_true, iff_false, and_true, true_and, and_false, false_and, reduceIte, ite_true, ite_false, eq_self] at *)) <;> omega), (by first | assumption | (((try simp only [vp_in_iff, Int32.lt_iff_toInt_lt, Int32.le_iff_toInt_le, ← Int32.toInt_inj, Int32.reduceToInt, n_1, n_2, n_8, Int32.toNatClampNeg, Int64.lt_iff_toInt_lt, Int64.le_iff_toInt_le, ← Int64.toInt_inj, Int64.reduceToInt, Int32.toInt_toInt64, lg_cmp_ge, lg_cmp_le, lg_cmp_gt, lg_cmp_lt, lg_cmp_eq, Bool.false_eq_true, Bool.true_eq_false, reduceCtorEq, false_iff, true_iff, iff_true, iff_false, and_true, true_and, and_false, false_and, reduceIte, ite_true, ite_false, eq_self] at *)) <;> omega)), trivial⟩ rfl
                        · have mh145 := nle_mx h145
                          refine wa_iload_n (i := 3) rfl rfl ?_
                          refine wa_aload_n (i := 0) rfl rfl ?_
                          refine wa_aload_n (i := 1) rfl rfl ?_
                          refine wa_aload_n (i := 1) rfl rfl ?_
                          refine wa_iload rfl ?_
                          refine wa_iload rfl ?_
                          refine wa_Vi (d9 := d - 1) [.int _, .int _] [.ref 7, .ref 60, .int (bI l3)] (sp_X2_atomOf G (d := d - 1) (by omega) s142 _ _) (rfl) rfl rfl (zr (by omega)) mk_X2_atomOf ly_7 ml_9_75 (Nat.le_of_ble_eq_true rfl) (fun x158 s157 hs157 => ?_)
                          obtain ⟨zs157, -⟩ := pI hs157
                          subst zs157
                          refine wa_Vi (d9 := d - 1) [.ref 7, .int _] [.int (bI l3)] (sp_X9_takeAtom G (d := d - 1) (by omega) s142 _ (by first | assumption | exact Or.inl rfl | exact Or.inr rfl | (((try simp only [vp_in_iff, Int32.lt_iff_toInt_lt, Int32.le_iff_toInt_le, ← Int32.toInt_inj, Int32.reduceToInt, n_1, n_2, n_8, Int32.toNatClampNeg, Int64.lt_iff_toInt_lt, Int64.le_iff_toInt_le, ← Int64.toInt_inj, Int64.reduceToInt, Int32.toInt_toInt64, lg_cmp_ge, lg_cmp_le, lg_cmp_gt, lg_cmp_lt, lg_cmp_eq, Bool.false_eq_true, Bool.true_eq_false, reduceCtorEq, false_iff, true_iff, iff_true, iff_false, and_true, true_and, and_false, false_and, reduceIte, ite_true, ite_false, eq_self] at *)) <;> omega))) (rfl) rfl rfl (zr (by omega)) mk_X9_takeAtom ly_60 ml_9_78 (Nat.le_of_ble_eq_true rfl) (fun x160 s159 hs159 => ?_)
                          obtain ⟨bx160, ex160, fs159, cx160_1, -⟩ := pB hs159
                          subst ex160
                          have Fs159 := Sm.tr Fs142 (Sm.wd fs159 (lo' := 60) (hi' := 63) (by decide) (by decide))
                          refine wa_iand ?_
                          refine wa_rw (bI_and (a := l3) (b := bx160) rfl rfl) ?_
                          refine wa_istore_nD (lv' := [(3, .int (bI (l3 && bx160))), (0, .ref 60), (1, .ref 7), (4, .int l4), (5, .int x141), (6, .int l6)]) (i := 3) rfl (by decide) rfl ?_
                          refine wa_iinc (v := (1)) (lv' := fun y161 => [(6, .int y161), (3, .int (bI (l3 && bx160))), (0, .ref 60), (1, .ref 7), (4, .int l4), (5, .int x141)]) (by decide) rfl (by decide) (fun _ => rfl) (fun y161 hy161 => ?_)
                          have ty161 := i_addT hy161.symm
                          clear hy161
                          refine wa_goto o_X9_load_109 (by decide) ?_
                          refine wa_pick [2, 3, 1, 4, 5, 0] rfl ?_
                          exact ih143 _ (by ((try simp only [vp_in_iff, Int32.lt_iff_toInt_lt, Int32.le_iff_toInt_le, ← Int32.toInt_inj, Int32.reduceToInt, n_1, n_2, n_8, Int32.toNatClampNeg, Int64.lt_iff_toInt_lt, Int64.le_iff_toInt_le, ← Int64.toInt_inj, Int64.reduceToInt, Int32.toInt_toInt64, lg_cmp_ge, lg_cmp_le, lg_cmp_gt, lg_cmp_lt, lg_cmp_eq, Bool.false_eq_true, Bool.true_eq_false, reduceCtorEq, false_iff, true_iff, iff_true, iff_false, and_true, true_and, and_false, false_and, reduceIte, ite_true, ite_false, eq_self] at *)) <;> omega) _ _ _ ⟨Fs159, ((Sm.gi fs159 10 (Or.inl (by decide))).trans (khi144_0)), ((Sm.gi fs159 11 (Or.inl (by decide))).trans (khi144_1)), ((Sm.gi fs159 13 (Or.inl (by decide))).trans (khi144_2)), (by ((try simp only [vp_in_iff, Int32.lt_iff_toInt_lt, Int32.le_iff_toInt_le, ← Int32.toInt_inj, Int32.reduceToInt, n_1, n_2, n_8, Int32.toNatClampNeg, Int64.lt_iff_toInt_lt, Int64.le_iff_toInt_le, ← Int64.toInt_inj, Int64.reduceToInt, Int32.toInt_toInt64, lg_cmp_ge, lg_cmp_le, lg_cmp_gt, lg_cmp_lt, lg_cmp_eq, Bool.false_eq_true, Bool.true_eq_false, reduceCtorEq, false_iff, true_iff, iff_true, iff_false, and_true, true_and, and_false, false_and, reduceIte, ite_true, ite_false, eq_self] at *)) <;> omega), (by first | assumption | (((try simp only [vp_in_iff, Int32.lt_iff_toInt_lt, Int32.le_iff_toInt_le, ← Int32.toInt_inj, Int32.reduceToInt, n_1, n_2, n_8, Int32.toNatClampNeg, Int64.lt_iff_toInt_lt, Int64.le_iff_toInt_le, ← Int64.toInt_inj, Int64.reduceToInt, Int32.toInt_toInt64, lg_cmp_ge, lg_cmp_le, lg_cmp_gt, lg_cmp_lt, lg_cmp_eq, Bool.false_eq_true, Bool.true_eq_false, reduceCtorEq, false_iff, true_iff, iff_true, iff_false, and_true, true_and, and_false, false_and, reduceIte, ite_true, ite_false, eq_self] at *)) <;> omega)), trivial⟩ rfl
                    exact hi144 _ _ _ _ ⟨Fs113, (khi115_0), (khi115_1), (khi115_2), (by ((try simp only [vp_in_iff, Int32.lt_iff_toInt_lt, Int32.le_iff_toInt_le, ← Int32.toInt_inj, Int32.reduceToInt, n_1, n_2, n_8, Int32.toNatClampNeg, Int64.lt_iff_toInt_lt, Int64.le_iff_toInt_le, ← Int64.toInt_inj, Int64.reduceToInt, Int32.toInt_toInt64, lg_cmp_ge, lg_cmp_le, lg_cmp_gt, lg_cmp_lt, lg_cmp_eq, Bool.false_eq_true, Bool.true_eq_false, reduceCtorEq, false_iff, true_iff, iff_true, iff_false, and_true, true_and, and_false, false_and, reduceIte, ite_true, ite_false, eq_self] at *)) <;> omega), (by first | assumption | (((try simp only [vp_in_iff, Int32.lt_iff_toInt_lt, Int32.le_iff_toInt_le, ← Int32.toInt_inj, Int32.reduceToInt, n_1, n_2, n_8, Int32.toNatClampNeg, Int64.lt_iff_toInt_lt, Int64.le_iff_toInt_le, ← Int64.toInt_inj, Int64.reduceToInt, Int32.toInt_toInt64, lg_cmp_ge, lg_cmp_le, lg_cmp_gt, lg_cmp_lt, lg_cmp_eq, Bool.false_eq_true, Bool.true_eq_false, reduceCtorEq, false_iff, true_iff, iff_true, iff_false, and_true, true_and, and_false, false_and, reduceIte, ite_true, ite_false, eq_self] at *)) <;> omega)), trivial⟩ rfl
            exact hi115 _ _ _ _ ⟨Fs112, ((nx_gi_sl hs112).trans (khi7_1)), ((nx_gi_sl hs112).trans (khi7_2)), ((nx_gi_sl hs112).trans (khi7_3)), (by ((try simp only [vp_in_iff, Int32.lt_iff_toInt_lt, Int32.le_iff_toInt_le, ← Int32.toInt_inj, Int32.reduceToInt, n_1, n_2, n_8, Int32.toNatClampNeg, Int64.lt_iff_toInt_lt, Int64.le_iff_toInt_le, ← Int64.toInt_inj, Int64.reduceToInt, Int32.toInt_toInt64, lg_cmp_ge, lg_cmp_le, lg_cmp_gt, lg_cmp_lt, lg_cmp_eq, Bool.false_eq_true, Bool.true_eq_false, reduceCtorEq, false_iff, true_iff, iff_true, iff_false, and_true, true_and, and_false, false_and, reduceIte, ite_true, ite_false, eq_self] at *)) <;> omega), (by rw [(nx_gi_sl hs112).trans (khi7_0)]; first | assumption | (((try simp only [vp_in_iff, Int32.lt_iff_toInt_lt, Int32.le_iff_toInt_le, ← Int32.toInt_inj, Int32.reduceToInt, n_1, n_2, n_8, Int32.toNatClampNeg, Int64.lt_iff_toInt_lt, Int64.le_iff_toInt_le, ← Int64.toInt_inj, Int64.reduceToInt, Int32.toInt_toInt64, lg_cmp_ge, lg_cmp_le, lg_cmp_gt, lg_cmp_lt, lg_cmp_eq, Bool.false_eq_true, Bool.true_eq_false, reduceCtorEq, false_iff, true_iff, iff_true, iff_false, and_true, true_and, and_false, false_and, reduceIte, ite_true, ite_false, eq_self] at *)) <;> omega)), trivial⟩ rfl
          · refine wa_aload_n (i := 2) rfl rfl ?_
            refine wa_iconst (v := 4) (by decide) ?_
            refine wa_lald ly_29 (by ((try simp only [vp_in_iff, Int32.lt_iff_toInt_lt, Int32.le_iff_toInt_le, ← Int32.toInt_inj, Int32.reduceToInt, n_1, n_2, n_8, Int32.toNatClampNeg, Int64.lt_iff_toInt_lt, Int64.le_iff_toInt_le, ← Int64.toInt_inj, Int64.reduceToInt, Int32.toInt_toInt64, lg_cmp_ge, lg_cmp_le, lg_cmp_gt, lg_cmp_lt, lg_cmp_eq, Bool.false_eq_true, Bool.true_eq_false, reduceCtorEq, false_iff, true_iff, iff_true, iff_false, and_true, true_and, and_false, false_and, reduceIte, ite_true, ite_false, eq_self] at *)) <;> omega) ?_
            refine wa_goto o_X9_load_63 (by decide) ?_
            refine wa_putl ck_9 fl_9_63 ly_60 (fun s162 hs162 => ?_)
            have Fs162 : Sm 60 63 σ s162 := by rw [hs162]; exact Sm.sl Fs5 _ _ (by decide) (by decide)
            refine wa_iconst (v := 1) (by decide) ?_
            refine wa_istore_nD (lv' := [(3, .int (bI true)), (0, .ref 60), (1, .ref 7), (2, .ref 29)]) (i := 3) rfl (by decide) rfl ?_
            refine wa_iconst (v := 0) (by decide) ?_
            refine wa_istoreD (lv' := [(4, .int 0), (3, .int (bI true)), (0, .ref 60), (1, .ref 7), (2, .ref 29)]) (by decide) rfl ?_
            refine wa_pick [2, 3, 1, 0] rfl ?_
            have hi165 : ∀ (n9_71 : Nat) (l3 : Bool) (l4 : Int32) (s163 : St), ((Sm 60 63 σ s163) ∧ (gi s163 7 10 = gi σ 7 10) ∧ (gi s163 7 11 = gi σ 7 11) ∧ (gi s163 7 13 = gi σ 7 13) ∧ (0 ≤ l4.toInt) ∧ (0 ≤ (gi s163 60 12).toInt ∧ (gi s163 60 12).toInt ≤ 4) ∧ (True)) → (2147483647 - l4.toInt).toNat = n9_71 → WA G M_X9_load (ZM G M_X9_load d (fun r σ' => ∃ x : Bool, r = some (.int (bI x)) ∧ Sm 60 63 σ σ' ∧ (0 ≤ (gi σ' 60 12).toInt ∧ (gi σ' 60 12).toInt ≤ 4) ∧ True)) B_X9_load_71 [(0, .ref 60), (1, .ref 7), (3, .int (bI l3)), (4, .int l4)] [] s163 := by
              intro n9_71
              induction n9_71 using Nat.strongRecOn with
              | _ n9_71 ih164 =>
                intro l3 l4 s163 i9 m9_71
                obtain ⟨Fs163, khi165_0, khi165_1, khi165_2, jhi165_0, jhi165_1, -⟩ := i9
                have ul4 := Int32.toInt_lt l4
                have wl4 := Int32.le_toInt l4
                refine wa_iload rfl ?_
                refine wa_aload_n (i := 1) rfl rfl ?_
                refine wa_geti ck_2 fl_9_66 ly_7 ?_
                refine wa_rw (khi165_1) ?_
                refine wa_icmp_ge o_X9_load_178 (by decide) (fun h166 => ?_) (fun h166 => ?_)
                · refine wa_iload_n (i := 3) rfl rfl ?_
                  refine wa_zreturn l3 (rfl) rfl rfl ?_
                  exact ⟨_, rfl, Fs163, (by first | assumption | (((try simp only [vp_in_iff, Int32.lt_iff_toInt_lt, Int32.le_iff_toInt_le, ← Int32.toInt_inj, Int32.reduceToInt, n_1, n_2, n_8, Int32.toNatClampNeg, Int64.lt_iff_toInt_lt, Int64.le_iff_toInt_le, ← Int64.toInt_inj, Int64.reduceToInt, Int32.toInt_toInt64, lg_cmp_ge, lg_cmp_le, lg_cmp_gt, lg_cmp_lt, lg_cmp_eq, Bool.false_eq_true, Bool.true_eq_false, reduceCtorEq, false_iff, true_iff, iff_true, iff_false, and_true, true_and, and_false, false_and, reduceIte, ite_true, ite_false, eq_self] at *)) <;> omega)), trivial⟩
                · have mh166 := nle_mx h166
                  refine wa_aload_n (i := 1) rfl rfl ?_
                  refine wa_geti ck_2 fl_9_69 ly_7 ?_
                  refine wa_rw (khi165_2) ?_
                  refine wa_iload rfl ?_
                  refine wa_iushr ?_
                  refine wa_top (fun v167 hv167 => ?_)
                  clear hv167
                  refine wa_iconst (v := 1) (by decide) ?_
                  refine wa_iand ?_
                  refine wa_top (fun v168 hv168 => ?_)
                  have tv168 := i_andT hv168
                  clear hv168
                  refine wa_iconst (v := 1) (by decide) ?_
                  refine wa_icmp_ne o_X9_load_103 (by decide) (fun h169 => ?_) (fun h169 => ?_)
                  · refine wa_iconst (v := 0) (by decide) ?_
                    refine wa_istoreD (lv' := [(5, .int 0), (0, .ref 60), (1, .ref 7), (3, .int (bI l3)), (4, .int l4)]) (by decide) rfl ?_
                    refine wa_iconst (v := 0) (by decide) ?_
                    refine wa_istoreD (lv' := [(6, .int 0), (5, .int 0), (0, .ref 60), (1, .ref 7), (3, .int (bI l3)), (4, .int l4)]) (by decide) rfl ?_
                    refine wa_pick [2, 3, 4, 5, 1, 0] rfl ?_
                    have hi172 : ∀ (n9_109 : Nat) (l3 : Bool) (l6 : Int32) (s170 : St), ((Sm 60 63 σ s170) ∧ (gi s170 7 10 = gi σ 7 10) ∧ (gi s170 7 11 = gi σ 7 11) ∧ (gi s170 7 13 = gi σ 7 13) ∧ (0 ≤ l6.toInt) ∧ (0 ≤ (gi s170 60 12).toInt ∧ (gi s170 60 12).toInt ≤ 4) ∧ (True)) → (2147483647 - l6.toInt).toNat = n9_109 → WA G M_X9_load (ZM G M_X9_load d (fun r σ' => ∃ x : Bool, r = some (.int (bI x)) ∧ Sm 60 63 σ σ' ∧ (0 ≤ (gi σ' 60 12).toInt ∧ (gi σ' 60 12).toInt ≤ 4) ∧ True)) B_X9_load_109 [(0, .ref 60), (1, .ref 7), (3, .int (bI l3)), (4, .int l4), (5, .int 0), (6, .int l6)] [] s170 := by
                      intro n9_109
                      induction n9_109 using Nat.strongRecOn with
                      | _ n9_109 ih171 =>
                        intro l3 l6 s170 i9 m9_109
                        obtain ⟨Fs170, khi172_0, khi172_1, khi172_2, jhi172_0, jhi172_1, -⟩ := i9
                        have ul6 := Int32.toInt_lt l6
                        have wl6 := Int32.le_toInt l6
                        refine wa_iload rfl ?_
                        refine wa_iload rfl ?_
                        refine wa_icmp_ge o_X9_load_138 (by decide) (fun h173 => ?_) (fun h173 => ?_)
                        · refine wa_aload_n (i := 1) rfl rfl ?_
                          refine wa_geti ck_2 fl_9_69 ly_7 ?_
                          refine wa_rw (khi172_2) ?_
                          refine wa_iload rfl ?_
                          refine wa_iushr ?_
                          refine wa_top (fun v174 hv174 => ?_)
                          clear hv174
                          refine wa_iconst (v := 1) (by decide) ?_
                          refine wa_iand ?_
                          refine wa_top (fun v175 hv175 => ?_)
                          have tv175 := i_andT hv175
                          clear hv175
                          refine wa_iconst (v := 1) (by decide) ?_
                          refine wa_icmp_ne o_X9_load_172 (by decide) (fun h176 => ?_) (fun h176 => ?_)
                          · refine wa_iinc (v := (1)) (lv' := fun y177 => [(4, .int y177), (0, .ref 60), (1, .ref 7), (3, .int (bI l3)), (5, .int 0), (6, .int l6)]) (by decide) rfl (by decide) (fun _ => rfl) (fun y177 hy177 => ?_)
                            have ty177 := i_addT hy177.symm
                            clear hy177
                            refine wa_goto o_X9_load_71 (by decide) ?_
                            refine wa_pick [1, 2, 3, 0] rfl ?_
                            exact ih164 _ (by ((try simp only [vp_in_iff, Int32.lt_iff_toInt_lt, Int32.le_iff_toInt_le, ← Int32.toInt_inj, Int32.reduceToInt, n_1, n_2, n_8, Int32.toNatClampNeg, Int64.lt_iff_toInt_lt, Int64.le_iff_toInt_le, ← Int64.toInt_inj, Int64.reduceToInt, Int32.toInt_toInt64, lg_cmp_ge, lg_cmp_le, lg_cmp_gt, lg_cmp_lt, lg_cmp_eq, Bool.false_eq_true, Bool.true_eq_false, reduceCtorEq, false_iff, true_iff, iff_true, iff_false, and_true, true_and, and_false, false_and, reduceIte, ite_true, ite_false, eq_self] at *)) <;> omega) _ _ _ ⟨Fs170, (khi172_0), (khi172_1), (khi172_2), (by ((try simp only [vp_in_iff, Int32.lt_iff_toInt_lt, Int32.le_iff_toInt_le, ← Int32.toInt_inj, Int32.reduceToInt, n_1, n_2, n_8, Int32.toNatClampNeg, Int64.lt_iff_toInt_lt, Int64.le_iff_toInt_le, ← Int64.toInt_inj, Int64.reduceToInt, Int32.toInt_toInt64, lg_cmp_ge, lg_cmp_le, lg_cmp_gt, lg_cmp_lt, lg_cmp_eq, Bool.false_eq_true, Bool.true_eq_false, reduceCtorEq, false_iff, true_iff, iff_true, iff_false, and_true, true_and, and_false, false_and, reduceIte, ite_true, ite_false, eq_self] at *)) <;> omega), (by first | assumption | (((try simp only [vp_in_iff, Int32.lt_iff_toInt_lt, Int32.le_iff_toInt_le, ← Int32.toInt_inj, Int32.reduceToInt, n_1, n_2, n_8, Int32.toNatClampNeg, Int64.lt_iff_toInt_lt, Int64.le_iff_toInt_le, ← Int64.toInt_inj, Int64.reduceToInt, Int32.toInt_toInt64, lg_cmp_ge, lg_cmp_le, lg_cmp_gt, lg_cmp_lt, lg_cmp_eq, Bool.false_eq_true, Bool.true_eq_false, reduceCtorEq, false_iff, true_iff, iff_true, iff_false, and_true, true_and, and_false, false_and, reduceIte, ite_true, ite_false, eq_self] at *)) <;> omega)), trivial⟩ rfl
                          · refine wa_aload_n (i := 1) rfl rfl ?_
                            refine wa_iload rfl ?_
                            refine wa_bipush (v := 6) (by decide) ?_
                            refine wa_Vi (d9 := d - 1) [.int _, .int _] [] (sp_X2_fact G (d := d - 1) (by omega) s170 _ _) (rfl) rfl rfl (zr (by omega)) mk_X2_fact ly_7 ml_9_72 (Nat.le_of_ble_eq_true rfl) (fun x179 s178 hs178 => ?_)
                            obtain ⟨zs178, -⟩ := pI hs178
                            subst zs178
                            refine wa_iconst (v := 1) (by decide) ?_
                            refine wa_icmp_ne o_X9_load_172 (by decide) (fun h180 => ?_) (fun h180 => ?_)
                            · refine wa_iinc (v := (1)) (lv' := fun y181 => [(4, .int y181), (0, .ref 60), (1, .ref 7), (3, .int (bI l3)), (5, .int 0), (6, .int l6)]) (by decide) rfl (by decide) (fun _ => rfl) (fun y181 hy181 => ?_)
                              have ty181 := i_addT hy181.symm
                              clear hy181
                              refine wa_goto o_X9_load_71 (by decide) ?_
                              refine wa_pick [1, 2, 3, 0] rfl ?_
                              exact ih164 _ (by ((try simp only [vp_in_iff, Int32.lt_iff_toInt_lt, Int32.le_iff_toInt_le, ← Int32.toInt_inj, Int32.reduceToInt, n_1, n_2, n_8, Int32.toNatClampNeg, Int64.lt_iff_toInt_lt, Int64.le_iff_toInt_le, ← Int64.toInt_inj, Int64.reduceToInt, Int32.toInt_toInt64, lg_cmp_ge, lg_cmp_le, lg_cmp_gt, lg_cmp_lt, lg_cmp_eq, Bool.false_eq_true, Bool.true_eq_false, reduceCtorEq, false_iff, true_iff, iff_true, iff_false, and_true, true_and, and_false, false_and, reduceIte, ite_true, ite_false, eq_self] at *)) <;> omega) _ _ _ ⟨Fs170, (khi172_0), (khi172_1), (khi172_2), (by ((try simp only [vp_in_iff, Int32.lt_iff_toInt_lt, Int32.le_iff_toInt_le, ← Int32.toInt_inj, Int32.reduceToInt, n_1, n_2, n_8, Int32.toNatClampNeg, Int64.lt_iff_toInt_lt, Int64.le_iff_toInt_le, ← Int64.toInt_inj, Int64.reduceToInt, Int32.toInt_toInt64, lg_cmp_ge, lg_cmp_le, lg_cmp_gt, lg_cmp_lt, lg_cmp_eq, Bool.false_eq_true, Bool.true_eq_false, reduceCtorEq, false_iff, true_iff, iff_true, iff_false, and_true, true_and, and_false, false_and, reduceIte, ite_true, ite_false, eq_self] at *)) <;> omega), (by first | assumption | (((try simp only [vp_in_iff, Int32.lt_iff_toInt_lt, Int32.le_iff_toInt_le, ← Int32.toInt_inj, Int32.reduceToInt, n_1, n_2, n_8, Int32.toNatClampNeg, Int64.lt_iff_toInt_lt, Int64.le_iff_toInt_le, ← Int64.toInt_inj, Int64.reduceToInt, Int32.toInt_toInt64, lg_cmp_ge, lg_cmp_le, lg_cmp_gt, lg_cmp_lt, lg_cmp_eq, Bool.false_eq_true, Bool.true_eq_false, reduceCtorEq, false_iff, true_iff, iff_true, iff_false, and_true, true_and, and_false, false_and, reduceIte, ite_true, ite_false, eq_self] at *)) <;> omega)), trivial⟩ rfl
                            · refine wa_iload_n (i := 3) rfl rfl ?_
                              refine wa_aload_n (i := 0) rfl rfl ?_
                              refine wa_aload_n (i := 1) rfl rfl ?_
                              refine wa_iconst (v := (-1)) (by decide) ?_
                              refine wa_Vi (d9 := d - 1) [.ref 7, .int _] [.int (bI l3)] (sp_X9_takeAtom G (d := d - 1) (by omega) s170 _ (by first | assumption | exact Or.inl rfl | exact Or.inr rfl | (((try simp only [vp_in_iff, Int32.lt_iff_toInt_lt, Int32.le_iff_toInt_le, ← Int32.toInt_inj, Int32.reduceToInt, n_1, n_2, n_8, Int32.toNatClampNeg, Int64.lt_iff_toInt_lt, Int64.le_iff_toInt_le, ← Int64.toInt_inj, Int64.reduceToInt, Int32.toInt_toInt64, lg_cmp_ge, lg_cmp_le, lg_cmp_gt, lg_cmp_lt, lg_cmp_eq, Bool.false_eq_true, Bool.true_eq_false, reduceCtorEq, false_iff, true_iff, iff_true, iff_false, and_true, true_and, and_false, false_and, reduceIte, ite_true, ite_false, eq_self] at *)) <;> omega))) (rfl) rfl rfl (zr (by omega)) mk_X9_takeAtom ly_60 ml_9_78 (Nat.le_of_ble_eq_true rfl) (fun x183 s182 hs182 => ?_)
                              obtain ⟨bx183, ex183, fs182, cx183_1, -⟩ := pB hs182
                              subst ex183
                              have Fs182 := Sm.tr Fs170 (Sm.wd fs182 (lo' := 60) (hi' := 63) (by decide) (by decide))
                              refine wa_iand ?_
                              refine wa_rw (bI_and (a := l3) (b := bx183) rfl rfl) ?_
                              refine wa_istore_nD (lv' := [(3, .int (bI (l3 && bx183))), (0, .ref 60), (1, .ref 7), (4, .int l4), (5, .int 0), (6, .int l6)]) (i := 3) rfl (by decide) rfl ?_
                              refine wa_iinc (v := (1)) (lv' := fun y184 => [(4, .int y184), (3, .int (bI (l3 && bx183))), (0, .ref 60), (1, .ref 7), (5, .int 0), (6, .int l6)]) (by decide) rfl (by decide) (fun _ => rfl) (fun y184 hy184 => ?_)
                              have ty184 := i_addT hy184.symm
                              clear hy184
                              refine wa_goto o_X9_load_71 (by decide) ?_
                              refine wa_pick [2, 3, 1, 0] rfl ?_
                              exact ih164 _ (by ((try simp only [vp_in_iff, Int32.lt_iff_toInt_lt, Int32.le_iff_toInt_le, ← Int32.toInt_inj, Int32.reduceToInt, n_1, n_2, n_8, Int32.toNatClampNeg, Int64.lt_iff_toInt_lt, Int64.le_iff_toInt_le, ← Int64.toInt_inj, Int64.reduceToInt, Int32.toInt_toInt64, lg_cmp_ge, lg_cmp_le, lg_cmp_gt, lg_cmp_lt, lg_cmp_eq, Bool.false_eq_true, Bool.true_eq_false, reduceCtorEq, false_iff, true_iff, iff_true, iff_false, and_true, true_and, and_false, false_and, reduceIte, ite_true, ite_false, eq_self] at *)) <;> omega) _ _ _ ⟨Fs182, ((Sm.gi fs182 10 (Or.inl (by decide))).trans (khi172_0)), ((Sm.gi fs182 11 (Or.inl (by decide))).trans (khi172_1)), ((Sm.gi fs182 13 (Or.inl (by decide))).trans (khi172_2)), (by ((try simp only [vp_in_iff, Int32.lt_iff_toInt_lt, Int32.le_iff_toInt_le, ← Int32.toInt_inj, Int32.reduceToInt, n_1, n_2, n_8, Int32.toNatClampNeg, Int64.lt_iff_toInt_lt, Int64.le_iff_toInt_le, ← Int64.toInt_inj, Int64.reduceToInt, Int32.toInt_toInt64, lg_cmp_ge, lg_cmp_le, lg_cmp_gt, lg_cmp_lt, lg_cmp_eq, Bool.false_eq_true, Bool.true_eq_false, reduceCtorEq, false_iff, true_iff, iff_true, iff_false, and_true, true_and, and_false, false_and, reduceIte, ite_true, ite_false, eq_self] at *)) <;> omega), (by first | assumption | (((try simp only [vp_in_iff, Int32.lt_iff_toInt_lt, Int32.le_iff_toInt_le, ← Int32.toInt_inj, Int32.reduceToInt, n_1, n_2, n_8, Int32.toNatClampNeg, Int64.lt_iff_toInt_lt, Int64.le_iff_toInt_le, ← Int64.toInt_inj, Int64.reduceToInt, Int32.toInt_toInt64, lg_cmp_ge, lg_cmp_le, lg_cmp_gt, lg_cmp_lt, lg_cmp_eq, Bool.false_eq_true, Bool.true_eq_false, reduceCtorEq, false_iff, true_iff, iff_true, iff_false, and_true, true_and, and_false, false_and, reduceIte, ite_true, ite_false, eq_self] at *)) <;> omega)), trivial⟩ rfl
                        · have mh173 := nle_mx h173
                          refine wa_iload_n (i := 3) rfl rfl ?_
                          refine wa_aload_n (i := 0) rfl rfl ?_
                          refine wa_aload_n (i := 1) rfl rfl ?_
                          refine wa_aload_n (i := 1) rfl rfl ?_
                          refine wa_iload rfl ?_
                          refine wa_iload rfl ?_
                          refine wa_Vi (d9 := d - 1) [.int _, .int _] [.ref 7, .ref 60, .int (bI l3)] (sp_X2_atomOf G (d := d - 1) (by omega) s170 _ _) (rfl) rfl rfl (zr (by omega)) mk_X2_atomOf ly_7 ml_9_75 (Nat.le_of_ble_eq_true rfl) (fun x186 s185 hs185 => ?_)
                          obtain ⟨zs185, -⟩ := pI hs185
                          subst zs185
                          refine wa_Vi (d9 := d - 1) [.ref 7, .int _] [.int (bI l3)] (sp_X9_takeAtom G (d := d - 1) (by omega) s170 _ (by first | assumption | exact Or.inl rfl | exact Or.inr rfl | (((try simp only [vp_in_iff, Int32.lt_iff_toInt_lt, Int32.le_iff_toInt_le, ← Int32.toInt_inj, Int32.reduceToInt, n_1, n_2, n_8, Int32.toNatClampNeg, Int64.lt_iff_toInt_lt, Int64.le_iff_toInt_le, ← Int64.toInt_inj, Int64.reduceToInt, Int32.toInt_toInt64, lg_cmp_ge, lg_cmp_le, lg_cmp_gt, lg_cmp_lt, lg_cmp_eq, Bool.false_eq_true, Bool.true_eq_false, reduceCtorEq, false_iff, true_iff, iff_true, iff_false, and_true, true_and, and_false, false_and, reduceIte, ite_true, ite_false, eq_self] at *)) <;> omega))) (rfl) rfl rfl (zr (by omega)) mk_X9_takeAtom ly_60 ml_9_78 (Nat.le_of_ble_eq_true rfl) (fun x188 s187 hs187 => ?_)
                          obtain ⟨bx188, ex188, fs187, cx188_1, -⟩ := pB hs187
                          subst ex188
                          have Fs187 := Sm.tr Fs170 (Sm.wd fs187 (lo' := 60) (hi' := 63) (by decide) (by decide))
                          refine wa_iand ?_
                          refine wa_rw (bI_and (a := l3) (b := bx188) rfl rfl) ?_
                          refine wa_istore_nD (lv' := [(3, .int (bI (l3 && bx188))), (0, .ref 60), (1, .ref 7), (4, .int l4), (5, .int 0), (6, .int l6)]) (i := 3) rfl (by decide) rfl ?_
                          refine wa_iinc (v := (1)) (lv' := fun y189 => [(6, .int y189), (3, .int (bI (l3 && bx188))), (0, .ref 60), (1, .ref 7), (4, .int l4), (5, .int 0)]) (by decide) rfl (by decide) (fun _ => rfl) (fun y189 hy189 => ?_)
                          have ty189 := i_addT hy189.symm
                          clear hy189
                          refine wa_goto o_X9_load_109 (by decide) ?_
                          refine wa_pick [2, 3, 1, 4, 5, 0] rfl ?_
                          exact ih171 _ (by ((try simp only [vp_in_iff, Int32.lt_iff_toInt_lt, Int32.le_iff_toInt_le, ← Int32.toInt_inj, Int32.reduceToInt, n_1, n_2, n_8, Int32.toNatClampNeg, Int64.lt_iff_toInt_lt, Int64.le_iff_toInt_le, ← Int64.toInt_inj, Int64.reduceToInt, Int32.toInt_toInt64, lg_cmp_ge, lg_cmp_le, lg_cmp_gt, lg_cmp_lt, lg_cmp_eq, Bool.false_eq_true, Bool.true_eq_false, reduceCtorEq, false_iff, true_iff, iff_true, iff_false, and_true, true_and, and_false, false_and, reduceIte, ite_true, ite_false, eq_self] at *)) <;> omega) _ _ _ ⟨Fs187, ((Sm.gi fs187 10 (Or.inl (by decide))).trans (khi172_0)), ((Sm.gi fs187 11 (Or.inl (by decide))).trans (khi172_1)), ((Sm.gi fs187 13 (Or.inl (by decide))).trans (khi172_2)), (by ((try simp only [vp_in_iff, Int32.lt_iff_toInt_lt, Int32.le_iff_toInt_le, ← Int32.toInt_inj, Int32.reduceToInt, n_1, n_2, n_8, Int32.toNatClampNeg, Int64.lt_iff_toInt_lt, Int64.le_iff_toInt_le, ← Int64.toInt_inj, Int64.reduceToInt, Int32.toInt_toInt64, lg_cmp_ge, lg_cmp_le, lg_cmp_gt, lg_cmp_lt, lg_cmp_eq, Bool.false_eq_true, Bool.true_eq_false, reduceCtorEq, false_iff, true_iff, iff_true, iff_false, and_true, true_and, and_false, false_and, reduceIte, ite_true, ite_false, eq_self] at *)) <;> omega), (by first | assumption | (((try simp only [vp_in_iff, Int32.lt_iff_toInt_lt, Int32.le_iff_toInt_le, ← Int32.toInt_inj, Int32.reduceToInt, n_1, n_2, n_8, Int32.toNatClampNeg, Int64.lt_iff_toInt_lt, Int64.le_iff_toInt_le, ← Int64.toInt_inj, Int64.reduceToInt, Int32.toInt_toInt64, lg_cmp_ge, lg_cmp_le, lg_cmp_gt, lg_cmp_lt, lg_cmp_eq, Bool.false_eq_true, Bool.true_eq_false, reduceCtorEq, false_iff, true_iff, iff_true, iff_false, and_true, true_and, and_false, false_and, reduceIte, ite_true, ite_false, eq_self] at *)) <;> omega)), trivial⟩ rfl
                    exact hi172 _ _ _ _ ⟨Fs163, (khi165_0), (khi165_1), (khi165_2), (by ((try simp only [vp_in_iff, Int32.lt_iff_toInt_lt, Int32.le_iff_toInt_le, ← Int32.toInt_inj, Int32.reduceToInt, n_1, n_2, n_8, Int32.toNatClampNeg, Int64.lt_iff_toInt_lt, Int64.le_iff_toInt_le, ← Int64.toInt_inj, Int64.reduceToInt, Int32.toInt_toInt64, lg_cmp_ge, lg_cmp_le, lg_cmp_gt, lg_cmp_lt, lg_cmp_eq, Bool.false_eq_true, Bool.true_eq_false, reduceCtorEq, false_iff, true_iff, iff_true, iff_false, and_true, true_and, and_false, false_and, reduceIte, ite_true, ite_false, eq_self] at *)) <;> omega), (by first | assumption | (((try simp only [vp_in_iff, Int32.lt_iff_toInt_lt, Int32.le_iff_toInt_le, ← Int32.toInt_inj, Int32.reduceToInt, n_1, n_2, n_8, Int32.toNatClampNeg, Int64.lt_iff_toInt_lt, Int64.le_iff_toInt_le, ← Int64.toInt_inj, Int64.reduceToInt, Int32.toInt_toInt64, lg_cmp_ge, lg_cmp_le, lg_cmp_gt, lg_cmp_lt, lg_cmp_eq, Bool.false_eq_true, Bool.true_eq_false, reduceCtorEq, false_iff, true_iff, iff_true, iff_false, and_true, true_and, and_false, false_and, reduceIte, ite_true, ite_false, eq_self] at *)) <;> omega)), trivial⟩ rfl
                  · refine wa_aload_n (i := 1) rfl rfl ?_
                    refine wa_iload rfl ?_
                    refine wa_iconst (v := 4) (by decide) ?_
                    refine wa_Vi (d9 := d - 1) [.int _, .int _] [] (sp_X2_fact G (d := d - 1) (by omega) s163 _ _) (rfl) rfl rfl (zr (by omega)) mk_X2_fact ly_7 ml_9_72 (Nat.le_of_ble_eq_true rfl) (fun x191 s190 hs190 => ?_)
                    obtain ⟨zs190, -⟩ := pI hs190
                    subst zs190
                    refine wa_goto o_X9_load_104 (by decide) ?_
                    refine wa_istoreD (lv' := [(5, .int x191), (0, .ref 60), (1, .ref 7), (3, .int (bI l3)), (4, .int l4)]) (by decide) rfl ?_
                    refine wa_iconst (v := 0) (by decide) ?_
                    refine wa_istoreD (lv' := [(6, .int 0), (5, .int x191), (0, .ref 60), (1, .ref 7), (3, .int (bI l3)), (4, .int l4)]) (by decide) rfl ?_
                    refine wa_pick [2, 3, 4, 5, 1, 0] rfl ?_
                    have hi194 : ∀ (n9_109 : Nat) (l3 : Bool) (l6 : Int32) (s192 : St), ((Sm 60 63 σ s192) ∧ (gi s192 7 10 = gi σ 7 10) ∧ (gi s192 7 11 = gi σ 7 11) ∧ (gi s192 7 13 = gi σ 7 13) ∧ (0 ≤ l6.toInt) ∧ (0 ≤ (gi s192 60 12).toInt ∧ (gi s192 60 12).toInt ≤ 4) ∧ (True)) → (2147483647 - l6.toInt).toNat = n9_109 → WA G M_X9_load (ZM G M_X9_load d (fun r σ' => ∃ x : Bool, r = some (.int (bI x)) ∧ Sm 60 63 σ σ' ∧ (0 ≤ (gi σ' 60 12).toInt ∧ (gi σ' 60 12).toInt ≤ 4) ∧ True)) B_X9_load_109 [(0, .ref 60), (1, .ref 7), (3, .int (bI l3)), (4, .int l4), (5, .int x191), (6, .int l6)] [] s192 := by
                      intro n9_109
                      induction n9_109 using Nat.strongRecOn with
                      | _ n9_109 ih193 =>
                        intro l3 l6 s192 i9 m9_109
                        obtain ⟨Fs192, khi194_0, khi194_1, khi194_2, jhi194_0, jhi194_1, -⟩ := i9
                        have ul6 := Int32.toInt_lt l6
                        have wl6 := Int32.le_toInt l6
                        refine wa_iload rfl ?_
                        refine wa_iload rfl ?_
                        refine wa_icmp_ge o_X9_load_138 (by decide) (fun h195 => ?_) (fun h195 => ?_)
                        · refine wa_aload_n (i := 1) rfl rfl ?_
                          refine wa_geti ck_2 fl_9_69 ly_7 ?_
                          refine wa_rw (khi194_2) ?_
                          refine wa_iload rfl ?_
                          refine wa_iushr ?_
                          refine wa_top (fun v196 hv196 => ?_)
                          clear hv196
                          refine wa_iconst (v := 1) (by decide) ?_
                          refine wa_iand ?_
                          refine wa_top (fun v197 hv197 => ?_)
                          have tv197 := i_andT hv197
                          clear hv197
                          refine wa_iconst (v := 1) (by decide) ?_
                          refine wa_icmp_ne o_X9_load_172 (by decide) (fun h198 => ?_) (fun h198 => ?_)
                          · refine wa_iinc (v := (1)) (lv' := fun y199 => [(4, .int y199), (0, .ref 60), (1, .ref 7), (3, .int (bI l3)), (5, .int x191), (6, .int l6)]) (by decide) rfl (by decide) (fun _ => rfl) (fun y199 hy199 => ?_)
                            have ty199 := i_addT hy199.symm
                            clear hy199
                            refine wa_goto o_X9_load_71 (by decide) ?_
                            refine wa_pick [1, 2, 3, 0] rfl ?_
                            exact ih164 _ (by ((try simp only [vp_in_iff, Int32.lt_iff_toInt_lt, Int32.le_iff_toInt_le, ← Int32.toInt_inj, Int32.reduceToInt, n_1, n_2, n_8, Int32.toNatClampNeg, Int64.lt_iff_toInt_lt, Int64.le_iff_toInt_le, ← Int64.toInt_inj, Int64.reduceToInt, Int32.toInt_toInt64, lg_cmp_ge, lg_cmp_le, lg_cmp_gt, lg_cmp_lt, lg_cmp_eq, Bool.false_eq_true, Bool.true_eq_false, reduceCtorEq, false_iff, true_iff, iff_true, iff_false, and_true, true_and, and_false, false_and, reduceIte, ite_true, ite_false, eq_self] at *)) <;> omega) _ _ _ ⟨Fs192, (khi194_0), (khi194_1), (khi194_2), (by ((try simp only [vp_in_iff, Int32.lt_iff_toInt_lt, Int32.le_iff_toInt_le, ← Int32.toInt_inj, Int32.reduceToInt, n_1, n_2, n_8, Int32.toNatClampNeg, Int64.lt_iff_toInt_lt, Int64.le_iff_toInt_le, ← Int64.toInt_inj, Int64.reduceToInt, Int32.toInt_toInt64, lg_cmp_ge, lg_cmp_le, lg_cmp_gt, lg_cmp_lt, lg_cmp_eq, Bool.false_eq_true, Bool.true_eq_false, reduceCtorEq, false_iff, true_iff, iff_true, iff_false, and_true, true_and, and_false, false_and, reduceIte, ite_true, ite_false, eq_self] at *)) <;> omega), (by first | assumption | (((try simp only [vp_in_iff, Int32.lt_iff_toInt_lt, Int32.le_iff_toInt_le, ← Int32.toInt_inj, Int32.reduceToInt, n_1, n_2, n_8, Int32.toNatClampNeg, Int64.lt_iff_toInt_lt, Int64.le_iff_toInt_le, ← Int64.toInt_inj, Int64.reduceToInt, Int32.toInt_toInt64, lg_cmp_ge, lg_cmp_le, lg_cmp_gt, lg_cmp_lt, lg_cmp_eq, Bool.false_eq_true, Bool.true_eq_false, reduceCtorEq, false_iff, true_iff, iff_true, iff_false, and_true, true_and, and_false, false_and, reduceIte, ite_true, ite_false, eq_self] at *)) <;> omega)), trivial⟩ rfl
                          · refine wa_aload_n (i := 1) rfl rfl ?_
                            refine wa_iload rfl ?_
                            refine wa_bipush (v := 6) (by decide) ?_
                            refine wa_Vi (d9 := d - 1) [.int _, .int _] [] (sp_X2_fact G (d := d - 1) (by omega) s192 _ _) (rfl) rfl rfl (zr (by omega)) mk_X2_fact ly_7 ml_9_72 (Nat.le_of_ble_eq_true rfl) (fun x201 s200 hs200 => ?_)
                            obtain ⟨zs200, -⟩ := pI hs200
                            subst zs200
                            refine wa_iconst (v := 1) (by decide) ?_
                            refine wa_icmp_ne o_X9_load_172 (by decide) (fun h202 => ?_) (fun h202 => ?_)
                            · refine wa_iinc (v := (1)) (lv' := fun y203 => [(4, .int y203), (0, .ref 60), (1, .ref 7), (3, .int (bI l3)), (5, .int x191), (6, .int l6)]) (by decide) rfl (by decide) (fun _ => rfl) (fun y203 hy203 => ?_)
                              have ty203 := i_addT hy203.symm
                              clear hy203
                              refine wa_goto o_X9_load_71 (by decide) ?_
                              refine wa_pick [1, 2, 3, 0] rfl ?_
                              exact ih164 _ (by ((try simp only [vp_in_iff, Int32.lt_iff_toInt_lt, Int32.le_iff_toInt_le, ← Int32.toInt_inj, Int32.reduceToInt, n_1, n_2, n_8, Int32.toNatClampNeg, Int64.lt_iff_toInt_lt, Int64.le_iff_toInt_le, ← Int64.toInt_inj, Int64.reduceToInt, Int32.toInt_toInt64, lg_cmp_ge, lg_cmp_le, lg_cmp_gt, lg_cmp_lt, lg_cmp_eq, Bool.false_eq_true, Bool.true_eq_false, reduceCtorEq, false_iff, true_iff, iff_true, iff_false, and_true, true_and, and_false, false_and, reduceIte, ite_true, ite_false, eq_self] at *)) <;> omega) _ _ _ ⟨Fs192, (khi194_0), (khi194_1), (khi194_2), (by ((try simp only [vp_in_iff, Int32.lt_iff_toInt_lt, Int32.le_iff_toInt_le, ← Int32.toInt_inj, Int32.reduceToInt, n_1, n_2, n_8, Int32.toNatClampNeg, Int64.lt_iff_toInt_lt, Int64.le_iff_toInt_le, ← Int64.toInt_inj, Int64.reduceToInt, Int32.toInt_toInt64, lg_cmp_ge, lg_cmp_le, lg_cmp_gt, lg_cmp_lt, lg_cmp_eq, Bool.false_eq_true, Bool.true_eq_false, reduceCtorEq, false_iff, true_iff, iff_true, iff_false, and_true, true_and, and_false, false_and, reduceIte, ite_true, ite_false, eq_self] at *)) <;> omega), (by first | assumption | (((try simp only [vp_in_iff, Int32.lt_iff_toInt_lt, Int32.le_iff_toInt_le, ← Int32.toInt_inj, Int32.reduceToInt, n_1, n_2, n_8, Int32.toNatClampNeg, Int64.lt_iff_toInt_lt, Int64.le_iff_toInt_le, ← Int64.toInt_inj, Int64.reduceToInt, Int32.toInt_toInt64, lg_cmp_ge, lg_cmp_le, lg_cmp_gt, lg_cmp_lt, lg_cmp_eq, Bool.false_eq_true, Bool.true_eq_false, reduceCtorEq, false_iff, true_iff, iff_true, iff_false, and_true, true_and, and_false, false_and, reduceIte, ite_true, ite_false, eq_self] at *)) <;> omega)), trivial⟩ rfl
                            · refine wa_iload_n (i := 3) rfl rfl ?_
                              refine wa_aload_n (i := 0) rfl rfl ?_
                              refine wa_aload_n (i := 1) rfl rfl ?_
                              refine wa_iconst (v := (-1)) (by decide) ?_
                              refine wa_Vi (d9 := d - 1) [.ref 7, .int _] [.int (bI l3)] (sp_X9_takeAtom G (d := d - 1) (by omega) s192 _ (by first | assumption | exact Or.inl rfl | exact Or.inr rfl | (((try simp only [vp_in_iff, Int32.lt_iff_toInt_lt, Int32.le_iff_toInt_le, ← Int32.toInt_inj, Int32.reduceToInt, n_1, n_2, n_8, Int32.toNatClampNeg, Int64.lt_iff_toInt_lt, Int64.le_iff_toInt_le, ← Int64.toInt_inj, Int64.reduceToInt, Int32.toInt_toInt64, lg_cmp_ge, lg_cmp_le, lg_cmp_gt, lg_cmp_lt, lg_cmp_eq, Bool.false_eq_true, Bool.true_eq_false, reduceCtorEq, false_iff, true_iff, iff_true, iff_false, and_true, true_and, and_false, false_and, reduceIte, ite_true, ite_false, eq_self] at *)) <;> omega))) (rfl) rfl rfl (zr (by omega)) mk_X9_takeAtom ly_60 ml_9_78 (Nat.le_of_ble_eq_true rfl) (fun x205 s204 hs204 => ?_)
                              obtain ⟨bx205, ex205, fs204, cx205_1, -⟩ := pB hs204
                              subst ex205
                              have Fs204 := Sm.tr Fs192 (Sm.wd fs204 (lo' := 60) (hi' := 63) (by decide) (by decide))
                              refine wa_iand ?_
                              refine wa_rw (bI_and (a := l3) (b := bx205) rfl rfl) ?_
                              refine wa_istore_nD (lv' := [(3, .int (bI (l3 && bx205))), (0, .ref 60), (1, .ref 7), (4, .int l4), (5, .int x191), (6, .int l6)]) (i := 3) rfl (by decide) rfl ?_
                              refine wa_iinc (v := (1)) (lv' := fun y206 => [(4, .int y206), (3, .int (bI (l3 && bx205))), (0, .ref 60), (1, .ref 7), (5, .int x191), (6, .int l6)]) (by decide) rfl (by decide) (fun _ => rfl) (fun y206 hy206 => ?_)
                              have ty206 := i_addT hy206.symm
                              clear hy206
                              refine wa_goto o_X9_load_71 (by decide) ?_
                              refine wa_pick [2, 3, 1, 0] rfl ?_
                              exact ih164 _ (by ((try simp only [vp_in_iff, Int32.lt_iff_toInt_lt, Int32.le_iff_toInt_le, ← Int32.toInt_inj, Int32.reduceToInt, n_1, n_2, n_8, Int32.toNatClampNeg, Int64.lt_iff_toInt_lt, Int64.le_iff_toInt_le, ← Int64.toInt_inj, Int64.reduceToInt, Int32.toInt_toInt64, lg_cmp_ge, lg_cmp_le, lg_cmp_gt, lg_cmp_lt, lg_cmp_eq, Bool.false_eq_true, Bool.true_eq_false, reduceCtorEq, false_iff, true_iff, iff_true, iff_false, and_true, true_and, and_false, false_and, reduceIte, ite_true, ite_false, eq_self] at *)) <;> omega) _ _ _ ⟨Fs204, ((Sm.gi fs204 10 (Or.inl (by decide))).trans (khi194_0)), ((Sm.gi fs204 11 (Or.inl (by decide))).trans (khi194_1)), ((Sm.gi fs204 13 (Or.inl (by decide))).trans (khi194_2)), (by ((try simp only [vp_in_iff, Int32.lt_iff_toInt_lt, Int32.le_iff_toInt_le, ← Int32.toInt_inj, Int32.reduceToInt, n_1, n_2, n_8, Int32.toNatClampNeg, Int64.lt_iff_toInt_lt, Int64.le_iff_toInt_le, ← Int64.toInt_inj, Int64.reduceToInt, Int32.toInt_toInt64, lg_cmp_ge, lg_cmp_le, lg_cmp_gt, lg_cmp_lt, lg_cmp_eq, Bool.false_eq_true, Bool.true_eq_false, reduceCtorEq, false_iff, true_iff, iff_true, iff_false, and_true, true_and, and_false, false_and, reduceIte, ite_true, ite_false, eq_self] at *)) <;> omega), (by first | assumption | (((try simp only [vp_in_iff, Int32.lt_iff_toInt_lt, Int32.le_iff_toInt_le, ← Int32.toInt_inj, Int32.reduceToInt, n_1, n_2, n_8, Int32.toNatClampNeg, Int64.lt_iff_toInt_lt, Int64.le_iff_toInt_le, ← Int64.toInt_inj, Int64.reduceToInt, Int32.toInt_toInt64, lg_cmp_ge, lg_cmp_le, lg_cmp_gt, lg_cmp_lt, lg_cmp_eq, Bool.false_eq_true, Bool.true_eq_false, reduceCtorEq, false_iff, true_iff, iff_true, iff_false, and_true, true_and, and_false, false_and, reduceIte, ite_true, ite_false, eq_self] at *)) <;> omega)), trivial⟩ rfl
                        · have mh195 := nle_mx h195
                          refine wa_iload_n (i := 3) rfl rfl ?_
                          refine wa_aload_n (i := 0) rfl rfl ?_
                          refine wa_aload_n (i := 1) rfl rfl ?_
                          refine wa_aload_n (i := 1) rfl rfl ?_
                          refine wa_iload rfl ?_
                          refine wa_iload rfl ?_
                          refine wa_Vi (d9 := d - 1) [.int _, .int _] [.ref 7, .ref 60, .int (bI l3)] (sp_X2_atomOf G (d := d - 1) (by omega) s192 _ _) (rfl) rfl rfl (zr (by omega)) mk_X2_atomOf ly_7 ml_9_75 (Nat.le_of_ble_eq_true rfl) (fun x208 s207 hs207 => ?_)
                          obtain ⟨zs207, -⟩ := pI hs207
                          subst zs207
                          refine wa_Vi (d9 := d - 1) [.ref 7, .int _] [.int (bI l3)] (sp_X9_takeAtom G (d := d - 1) (by omega) s192 _ (by first | assumption | exact Or.inl rfl | exact Or.inr rfl | (((try simp only [vp_in_iff, Int32.lt_iff_toInt_lt, Int32.le_iff_toInt_le, ← Int32.toInt_inj, Int32.reduceToInt, n_1, n_2, n_8, Int32.toNatClampNeg, Int64.lt_iff_toInt_lt, Int64.le_iff_toInt_le, ← Int64.toInt_inj, Int64.reduceToInt, Int32.toInt_toInt64, lg_cmp_ge, lg_cmp_le, lg_cmp_gt, lg_cmp_lt, lg_cmp_eq, Bool.false_eq_true, Bool.true_eq_false, reduceCtorEq, false_iff, true_iff, iff_true, iff_false, and_true, true_and, and_false, false_and, reduceIte, ite_true, ite_false, eq_self] at *)) <;> omega))) (rfl) rfl rfl (zr (by omega)) mk_X9_takeAtom ly_60 ml_9_78 (Nat.le_of_ble_eq_true rfl) (fun x210 s209 hs209 => ?_)
                          obtain ⟨bx210, ex210, fs209, cx210_1, -⟩ := pB hs209
                          subst ex210
                          have Fs209 := Sm.tr Fs192 (Sm.wd fs209 (lo' := 60) (hi' := 63) (by decide) (by decide))
                          refine wa_iand ?_
                          refine wa_rw (bI_and (a := l3) (b := bx210) rfl rfl) ?_
                          refine wa_istore_nD (lv' := [(3, .int (bI (l3 && bx210))), (0, .ref 60), (1, .ref 7), (4, .int l4), (5, .int x191), (6, .int l6)]) (i := 3) rfl (by decide) rfl ?_
                          refine wa_iinc (v := (1)) (lv' := fun y211 => [(6, .int y211), (3, .int (bI (l3 && bx210))), (0, .ref 60), (1, .ref 7), (4, .int l4), (5, .int x191)]) (by decide) rfl (by decide) (fun _ => rfl) (fun y211 hy211 => ?_)
                          have ty211 := i_addT hy211.symm
                          clear hy211
                          refine wa_goto o_X9_load_109 (by decide) ?_
                          refine wa_pick [2, 3, 1, 4, 5, 0] rfl ?_
                          exact ih193 _ (by ((try simp only [vp_in_iff, Int32.lt_iff_toInt_lt, Int32.le_iff_toInt_le, ← Int32.toInt_inj, Int32.reduceToInt, n_1, n_2, n_8, Int32.toNatClampNeg, Int64.lt_iff_toInt_lt, Int64.le_iff_toInt_le, ← Int64.toInt_inj, Int64.reduceToInt, Int32.toInt_toInt64, lg_cmp_ge, lg_cmp_le, lg_cmp_gt, lg_cmp_lt, lg_cmp_eq, Bool.false_eq_true, Bool.true_eq_false, reduceCtorEq, false_iff, true_iff, iff_true, iff_false, and_true, true_and, and_false, false_and, reduceIte, ite_true, ite_false, eq_self] at *)) <;> omega) _ _ _ ⟨Fs209, ((Sm.gi fs209 10 (Or.inl (by decide))).trans (khi194_0)), ((Sm.gi fs209 11 (Or.inl (by decide))).trans (khi194_1)), ((Sm.gi fs209 13 (Or.inl (by decide))).trans (khi194_2)), (by ((try simp only [vp_in_iff, Int32.lt_iff_toInt_lt, Int32.le_iff_toInt_le, ← Int32.toInt_inj, Int32.reduceToInt, n_1, n_2, n_8, Int32.toNatClampNeg, Int64.lt_iff_toInt_lt, Int64.le_iff_toInt_le, ← Int64.toInt_inj, Int64.reduceToInt, Int32.toInt_toInt64, lg_cmp_ge, lg_cmp_le, lg_cmp_gt, lg_cmp_lt, lg_cmp_eq, Bool.false_eq_true, Bool.true_eq_false, reduceCtorEq, false_iff, true_iff, iff_true, iff_false, and_true, true_and, and_false, false_and, reduceIte, ite_true, ite_false, eq_self] at *)) <;> omega), (by first | assumption | (((try simp only [vp_in_iff, Int32.lt_iff_toInt_lt, Int32.le_iff_toInt_le, ← Int32.toInt_inj, Int32.reduceToInt, n_1, n_2, n_8, Int32.toNatClampNeg, Int64.lt_iff_toInt_lt, Int64.le_iff_toInt_le, ← Int64.toInt_inj, Int64.reduceToInt, Int32.toInt_toInt64, lg_cmp_ge, lg_cmp_le, lg_cmp_gt, lg_cmp_lt, lg_cmp_eq, Bool.false_eq_true, Bool.true_eq_false, reduceCtorEq, false_iff, true_iff, iff_true, iff_false, and_true, true_and, and_false, false_and, reduceIte, ite_true, ite_false, eq_self] at *)) <;> omega)), trivial⟩ rfl
                    exact hi194 _ _ _ _ ⟨Fs163, (khi165_0), (khi165_1), (khi165_2), (by ((try simp only [vp_in_iff, Int32.lt_iff_toInt_lt, Int32.le_iff_toInt_le, ← Int32.toInt_inj, Int32.reduceToInt, n_1, n_2, n_8, Int32.toNatClampNeg, Int64.lt_iff_toInt_lt, Int64.le_iff_toInt_le, ← Int64.toInt_inj, Int64.reduceToInt, Int32.toInt_toInt64, lg_cmp_ge, lg_cmp_le, lg_cmp_gt, lg_cmp_lt, lg_cmp_eq, Bool.false_eq_true, Bool.true_eq_false, reduceCtorEq, false_iff, true_iff, iff_true, iff_false, and_true, true_and, and_false, false_and, reduceIte, ite_true, ite_false, eq_self] at *)) <;> omega), (by first | assumption | (((try simp only [vp_in_iff, Int32.lt_iff_toInt_lt, Int32.le_iff_toInt_le, ← Int32.toInt_inj, Int32.reduceToInt, n_1, n_2, n_8, Int32.toNatClampNeg, Int64.lt_iff_toInt_lt, Int64.le_iff_toInt_le, ← Int64.toInt_inj, Int64.reduceToInt, Int32.toInt_toInt64, lg_cmp_ge, lg_cmp_le, lg_cmp_gt, lg_cmp_lt, lg_cmp_eq, Bool.false_eq_true, Bool.true_eq_false, reduceCtorEq, false_iff, true_iff, iff_true, iff_false, and_true, true_and, and_false, false_and, reduceIte, ite_true, ite_false, eq_self] at *)) <;> omega)), trivial⟩ rfl
            exact hi165 _ _ _ _ ⟨Fs162, ((nx_gi_sl hs162).trans (khi7_1)), ((nx_gi_sl hs162).trans (khi7_2)), ((nx_gi_sl hs162).trans (khi7_3)), (by ((try simp only [vp_in_iff, Int32.lt_iff_toInt_lt, Int32.le_iff_toInt_le, ← Int32.toInt_inj, Int32.reduceToInt, n_1, n_2, n_8, Int32.toNatClampNeg, Int64.lt_iff_toInt_lt, Int64.le_iff_toInt_le, ← Int64.toInt_inj, Int64.reduceToInt, Int32.toInt_toInt64, lg_cmp_ge, lg_cmp_le, lg_cmp_gt, lg_cmp_lt, lg_cmp_eq, Bool.false_eq_true, Bool.true_eq_false, reduceCtorEq, false_iff, true_iff, iff_true, iff_false, and_true, true_and, and_false, false_and, reduceIte, ite_true, ite_false, eq_self] at *)) <;> omega), (by rw [(nx_gi_sl hs162).trans (khi7_0)]; first | assumption | (((try simp only [vp_in_iff, Int32.lt_iff_toInt_lt, Int32.le_iff_toInt_le, ← Int32.toInt_inj, Int32.reduceToInt, n_1, n_2, n_8, Int32.toNatClampNeg, Int64.lt_iff_toInt_lt, Int64.le_iff_toInt_le, ← Int64.toInt_inj, Int64.reduceToInt, Int32.toInt_toInt64, lg_cmp_ge, lg_cmp_le, lg_cmp_gt, lg_cmp_lt, lg_cmp_eq, Bool.false_eq_true, Bool.true_eq_false, reduceCtorEq, false_iff, true_iff, iff_true, iff_false, and_true, true_and, and_false, false_and, reduceIte, ite_true, ite_false, eq_self] at *)) <;> omega)), trivial⟩ rfl
        · have mh110 := nle_mx h110
          refine wa_aload_n (i := 0) rfl rfl ?_
          refine wa_getr ck_9 fl_9_15 ly_60 rf_60_1 ?_
          refine wa_iload_n (i := 3) rfl rfl ?_
          refine wa_aload_n (i := 2) rfl rfl ?_
          refine wa_iload_n (i := 3) rfl rfl ?_
          refine wa_lald ly_29 (by ((try simp only [vp_in_iff, Int32.lt_iff_toInt_lt, Int32.le_iff_toInt_le, ← Int32.toInt_inj, Int32.reduceToInt, n_1, n_2, n_8, Int32.toNatClampNeg, Int64.lt_iff_toInt_lt, Int64.le_iff_toInt_le, ← Int64.toInt_inj, Int64.reduceToInt, Int32.toInt_toInt64, lg_cmp_ge, lg_cmp_le, lg_cmp_gt, lg_cmp_lt, lg_cmp_eq, Bool.false_eq_true, Bool.true_eq_false, reduceCtorEq, false_iff, true_iff, iff_true, iff_false, and_true, true_and, and_false, false_and, reduceIte, ite_true, ite_false, eq_self] at *)) <;> omega) ?_
          refine wa_last ly_62 (by ((try simp only [vp_in_iff, Int32.lt_iff_toInt_lt, Int32.le_iff_toInt_le, ← Int32.toInt_inj, Int32.reduceToInt, n_1, n_2, n_8, Int32.toNatClampNeg, Int64.lt_iff_toInt_lt, Int64.le_iff_toInt_le, ← Int64.toInt_inj, Int64.reduceToInt, Int32.toInt_toInt64, lg_cmp_ge, lg_cmp_le, lg_cmp_gt, lg_cmp_lt, lg_cmp_eq, Bool.false_eq_true, Bool.true_eq_false, reduceCtorEq, false_iff, true_iff, iff_true, iff_false, and_true, true_and, and_false, false_and, reduceIte, ite_true, ite_false, eq_self] at *)) <;> omega) (fun s212 hs212 => ?_)
          have Fs212 : Sm 60 63 σ s212 := by rw [hs212]; exact Sm.sl Fs5 _ _ (by decide) (by decide)
          refine wa_iinc (v := (1)) (lv' := fun y213 => [(3, .int y213), (0, .ref 60), (1, .ref 7), (2, .ref 29)]) (by decide) rfl (by decide) (fun _ => rfl) (fun y213 hy213 => ?_)
          have ty213 := i_addT hy213.symm
          clear hy213
          refine wa_goto o_X9_load_23 (by decide) ?_
          refine wa_pick [1, 2, 3, 0] rfl ?_
          exact ih6 _ (by ((try simp only [vp_in_iff, Int32.lt_iff_toInt_lt, Int32.le_iff_toInt_le, ← Int32.toInt_inj, Int32.reduceToInt, n_1, n_2, n_8, Int32.toNatClampNeg, Int64.lt_iff_toInt_lt, Int64.le_iff_toInt_le, ← Int64.toInt_inj, Int64.reduceToInt, Int32.toInt_toInt64, lg_cmp_ge, lg_cmp_le, lg_cmp_gt, lg_cmp_lt, lg_cmp_eq, Bool.false_eq_true, Bool.true_eq_false, reduceCtorEq, false_iff, true_iff, iff_true, iff_false, and_true, true_and, and_false, false_and, reduceIte, ite_true, ite_false, eq_self] at *)) <;> omega) _ _ ⟨Fs212, ((nx_gi_sl hs212).trans (khi7_0)), ((nx_gi_sl hs212).trans (khi7_1)), ((nx_gi_sl hs212).trans (khi7_2)), ((nx_gi_sl hs212).trans (khi7_3)), (by ((try simp only [vp_in_iff, Int32.lt_iff_toInt_lt, Int32.le_iff_toInt_le, ← Int32.toInt_inj, Int32.reduceToInt, n_1, n_2, n_8, Int32.toNatClampNeg, Int64.lt_iff_toInt_lt, Int64.le_iff_toInt_le, ← Int64.toInt_inj, Int64.reduceToInt, Int32.toInt_toInt64, lg_cmp_ge, lg_cmp_le, lg_cmp_gt, lg_cmp_lt, lg_cmp_eq, Bool.false_eq_true, Bool.true_eq_false, reduceCtorEq, false_iff, true_iff, iff_true, iff_false, and_true, true_and, and_false, false_and, reduceIte, ite_true, ite_false, eq_self] at *)) <;> omega), trivial⟩ rfl
  exact hi7 _ _ _ ⟨Fs4, (nxe_gi_si hs4), ((nxq_gi_si hs4 (by decide)).trans (nxq_gi_si hs1 (by decide))), ((nxq_gi_si hs4 (by decide)).trans (nxq_gi_si hs1 (by decide))), ((nxq_gi_si hs4 (by decide)).trans (nxq_gi_si hs1 (by decide))), (by ((try simp only [vp_in_iff, Int32.lt_iff_toInt_lt, Int32.le_iff_toInt_le, ← Int32.toInt_inj, Int32.reduceToInt, n_1, n_2, n_8, Int32.toNatClampNeg, Int64.lt_iff_toInt_lt, Int64.le_iff_toInt_le, ← Int64.toInt_inj, Int64.reduceToInt, Int32.toInt_toInt64, lg_cmp_ge, lg_cmp_le, lg_cmp_gt, lg_cmp_lt, lg_cmp_eq, Bool.false_eq_true, Bool.true_eq_false, reduceCtorEq, false_iff, true_iff, iff_true, iff_false, and_true, true_and, and_false, false_and, reduceIte, ite_true, ite_false, eq_self] at *)) <;> omega), trivial⟩ rfl
set_option maxHeartbeats 4000000 in
theorem sp_X9_addLimit (G : kG9) {d : Nat} (hd : 2 ≤ d) (σ : St) (a0 : Int32) (a1 : Int32) (a2 : Int64) (r1 : 0 ≤ (gi σ 60 12).toInt ∧ (gi σ 60 12).toInt ≤ 4) : Ct G M_X9_addLimit d [.ref 60, .int a0, .int a1, .long a2] σ (fun r σ' => Sm 60 62 σ σ' ∧ (0 ≤ (gi σ' 60 12).toInt ∧ (gi σ' 60 12).toInt ≤ 4) ∧ True) := by
  refine wa_start (by decide) rfl (Nat.le_of_ble_eq_true rfl) (lv := [(0, .ref 60), (1, .int a0), (2, .int a1), (3, .long a2)]) rfl o_X9_addLimit_0 rfl ?_
  have ua0 := Int32.toInt_lt a0
  have wa0 := Int32.le_toInt a0
  have ua1 := Int32.toInt_lt a1
  have wa1 := Int32.le_toInt a1
  refine wa_aload_n (i := 0) rfl rfl ?_
  refine wa_aload_n (i := 0) rfl rfl ?_
  refine wa_geti ck_9 fl_9_44 ly_60 ?_
  refine wa_Vv (d9 := d - 1) [.int _] [] (sp_X9_clearRow G (d := d - 1) (by omega) σ _) (rfl) rfl rfl (zr (by omega)) mk_X9_clearRow ly_60 ml_9_82 (Nat.le_of_ble_eq_true rfl) (fun s1 hs1 => ?_)
  obtain ⟨fs1, -⟩ := hs1
  have Fs1 := Sm.tr (Sm.rf 60 62 σ) (Sm.wd fs1 (lo' := 60) (hi' := 62) (by decide) (by decide))
  refine wa_aload_n (i := 0) rfl rfl ?_
  refine wa_aload_n (i := 0) rfl rfl ?_
  refine wa_geti ck_9 fl_9_44 ly_60 ?_
  refine wa_rw (Sm.gi fs1 11 (Or.inl (by decide))) ?_
  refine wa_iload_n (i := 1) rfl rfl ?_
  refine wa_iload_n (i := 2) rfl rfl ?_
  refine wa_i2l ?_
  refine wa_Vv (d9 := d - 1) [.int _, .int _, .long _] [] (sp_X9_setRow G (d := d - 1) (by omega) s1 _ _ _) (rfl) rfl rfl (zr (by omega)) mk_X9_setRow ly_60 ml_9_91 (Nat.le_of_ble_eq_true rfl) (fun s3 hs3 => ?_)
  obtain ⟨fs3, -⟩ := hs3
  have Fs3 := Sm.tr Fs1 (Sm.wd fs3 (lo' := 60) (hi' := 62) (by decide) (by decide))
  refine wa_aload_n (i := 0) rfl rfl ?_
  refine wa_aload_n (i := 0) rfl rfl ?_
  refine wa_geti ck_9 fl_9_44 ly_60 ?_
  refine wa_rw ((Sm.gi fs3 11 (Or.inl (by decide))).trans (Sm.gi fs1 11 (Or.inl (by decide)))) ?_
  refine wa_iconst (v := 4) (by decide) ?_
  refine wa_lload_n (i := 3) rfl rfl ?_
  refine wa_Vv (d9 := d - 1) [.int _, .int _, .long _] [] (sp_X9_setRow G (d := d - 1) (by omega) s3 _ _ _) (rfl) rfl rfl (zr (by omega)) mk_X9_setRow ly_60 ml_9_91 (Nat.le_of_ble_eq_true rfl) (fun s5 hs5 => ?_)
  obtain ⟨fs5, -⟩ := hs5
  have Fs5 := Sm.tr Fs3 (Sm.wd fs5 (lo' := 60) (hi' := 62) (by decide) (by decide))
  refine wa_aload_n (i := 0) rfl rfl ?_
  refine wa_aload_n (i := 0) rfl rfl ?_
  refine wa_geti ck_9 fl_9_44 ly_60 ?_
  refine wa_rw ((Sm.gi fs5 11 (Or.inl (by decide))).trans ((Sm.gi fs3 11 (Or.inl (by decide))).trans (Sm.gi fs1 11 (Or.inl (by decide))))) ?_
  refine wa_iconst (v := 1) (by decide) ?_
  refine wa_iadd ?_
  refine wa_top (fun v7 hv7 => ?_)
  have tv7 := i_addT hv7
  clear hv7
  refine wa_sipush (v := 479) (by decide) ?_
  refine wa_minI zs (allW_in (kT_7 _ (List.mem_of_getElem? (i := 143) rfl)) rfl) (Nat.le_of_ble_eq_true rfl) ?_
  refine wa_top (fun v8 hv8 => ?_)
  have tv8 := i_minI hv8
  clear hv8
  refine wa_puti ck_9 fl_9_44 ly_60 (fun s9 hs9 => ?_)
  have Fs9 : Sm 60 62 σ s9 := by rw [hs9]; exact Sm.si Fs5 _ _ (by decide) (by decide)
  refine wa_return (st := []) rfl rfl ?_
  exact ⟨Fs9, (by rw [(nxk_gi_si hs9 (by decide)).trans ((Sm.gi fs5 12 (Or.inl (by decide))).trans ((Sm.gi fs3 12 (Or.inl (by decide))).trans (Sm.gi fs1 12 (Or.inl (by decide)))))]; first | assumption | (((try simp only [vp_in_iff, Int32.lt_iff_toInt_lt, Int32.le_iff_toInt_le, ← Int32.toInt_inj, Int32.reduceToInt, n_1, n_2, n_8, Int32.toNatClampNeg, Int64.lt_iff_toInt_lt, Int64.le_iff_toInt_le, ← Int64.toInt_inj, Int64.reduceToInt, Int32.toInt_toInt64, lg_cmp_ge, lg_cmp_le, lg_cmp_gt, lg_cmp_lt, lg_cmp_eq, Bool.false_eq_true, Bool.true_eq_false, reduceCtorEq, false_iff, true_iff, iff_true, iff_false, and_true, true_and, and_false, false_and, reduceIte, ite_true, ite_false, eq_self] at *)) <;> omega)), trivial⟩
set_option maxRecDepth 100000 in
set_option maxHeartbeats 4000000 in
theorem sp_J7_fill_d0a16_at_64 (G : kG9) {d : Nat} (hd : 0 ≤ d) (σ : St) (a1 : Int64) : Ct G M_J7_fill_d0a16 d [.ref 64, .long a1] σ (fun r σ' => Sm 64 65 σ σ' ∧ True) := by
  refine wa_startF (by decide +kernel) rfl (Nat.le_of_ble_eq_true rfl) (lv := [(0, .ref 64), (1, .long a1)]) rfl o_J7_fill_d0a16_0 rfl ?_
  refine wa_iconst (v := 0) (by decide) ?_
  refine wa_istore_nD (lv' := [(3, .int 0), (0, .ref 64), (1, .long a1)]) (i := 3) rfl (by decide) rfl ?_
  refine wa_aload_n (i := 0) rfl rfl ?_
  refine wa_alen ly_64 (by decide) ?_
  refine wa_rw (show Int32.ofNat 16 = 16 from rfl) ?_
  refine wa_istoreD (lv' := [(4, .int 16), (3, .int 0), (0, .ref 64), (1, .long a1)]) (by decide) rfl ?_
  refine wa_pick [2, 3, 1, 0] rfl ?_
  have hi3 : ∀ (n9_6 : Nat) (l3 : Int32) (s1 : St), ((Sm 64 65 σ s1) ∧ (0 ≤ l3.toInt) ∧ (True)) → (2147483647 - l3.toInt).toNat = n9_6 → WA G M_J7_fill_d0a16 (ZM G M_J7_fill_d0a16 d (fun r σ' => Sm 64 65 σ σ' ∧ True)) B_J7_fill_d0a16_6 [(0, .ref 64), (1, .long a1), (3, .int l3), (4, .int 16)] [] s1 := by
    intro n9_6
    induction n9_6 using Nat.strongRecOn with
    | _ n9_6 ih2 =>
      intro l3 s1 i9 m9_6
      obtain ⟨Fs1, jhi3_0, -⟩ := i9
      have ul3 := Int32.toInt_lt l3
      have wl3 := Int32.le_toInt l3
      refine wa_iload_n (i := 3) rfl rfl ?_
      refine wa_iload rfl ?_
      refine wa_icmp_ge o_J7_fill_d0a16_22 (by decide) (fun h4 => ?_) (fun h4 => ?_)
      · refine wa_return (st := []) rfl rfl ?_
        exact ⟨Fs1, trivial⟩
      · have mh4 := nle_mx h4
        refine wa_aload_n (i := 0) rfl rfl ?_
        refine wa_iload_n (i := 3) rfl rfl ?_
        refine wa_lload_n (i := 1) rfl rfl ?_
        refine wa_last ly_64 (by ((try simp only [vp_in_iff, Int32.lt_iff_toInt_lt, Int32.le_iff_toInt_le, ← Int32.toInt_inj, Int32.reduceToInt, n_1, n_2, n_8, Int32.toNatClampNeg, Int64.lt_iff_toInt_lt, Int64.le_iff_toInt_le, ← Int64.toInt_inj, Int64.reduceToInt, Int32.toInt_toInt64, lg_cmp_ge, lg_cmp_le, lg_cmp_gt, lg_cmp_lt, lg_cmp_eq, Bool.false_eq_true, Bool.true_eq_false, reduceCtorEq, false_iff, true_iff, iff_true, iff_false, and_true, true_and, and_false, false_and, reduceIte, ite_true, ite_false, eq_self] at *)) <;> omega) (fun s5 hs5 => ?_)
        have Fs5 : Sm 64 65 σ s5 := by rw [hs5]; exact Sm.sl Fs1 _ _ (by decide) (by decide)
        refine wa_iinc (v := (1)) (lv' := fun y6 => [(3, .int y6), (0, .ref 64), (1, .long a1), (4, .int 16)]) (by decide) rfl (by decide) (fun _ => rfl) (fun y6 hy6 => ?_)
        have ty6 := i_addT hy6.symm
        clear hy6
        refine wa_goto o_J7_fill_d0a16_6 (by decide) ?_
        refine wa_pick [1, 2, 0, 3] rfl ?_
        exact ih2 _ (by ((try simp only [vp_in_iff, Int32.lt_iff_toInt_lt, Int32.le_iff_toInt_le, ← Int32.toInt_inj, Int32.reduceToInt, n_1, n_2, n_8, Int32.toNatClampNeg, Int64.lt_iff_toInt_lt, Int64.le_iff_toInt_le, ← Int64.toInt_inj, Int64.reduceToInt, Int32.toInt_toInt64, lg_cmp_ge, lg_cmp_le, lg_cmp_gt, lg_cmp_lt, lg_cmp_eq, Bool.false_eq_true, Bool.true_eq_false, reduceCtorEq, false_iff, true_iff, iff_true, iff_false, and_true, true_and, and_false, false_and, reduceIte, ite_true, ite_false, eq_self] at *)) <;> omega) _ _ ⟨Fs5, (by ((try simp only [vp_in_iff, Int32.lt_iff_toInt_lt, Int32.le_iff_toInt_le, ← Int32.toInt_inj, Int32.reduceToInt, n_1, n_2, n_8, Int32.toNatClampNeg, Int64.lt_iff_toInt_lt, Int64.le_iff_toInt_le, ← Int64.toInt_inj, Int64.reduceToInt, Int32.toInt_toInt64, lg_cmp_ge, lg_cmp_le, lg_cmp_gt, lg_cmp_lt, lg_cmp_eq, Bool.false_eq_true, Bool.true_eq_false, reduceCtorEq, false_iff, true_iff, iff_true, iff_false, and_true, true_and, and_false, false_and, reduceIte, ite_true, ite_false, eq_self] at *)) <;> omega), trivial⟩ rfl
  exact hi3 _ _ _ ⟨(Sm.rf 64 65 σ), (by ((try simp only [vp_in_iff, Int32.lt_iff_toInt_lt, Int32.le_iff_toInt_le, ← Int32.toInt_inj, Int32.reduceToInt, n_1, n_2, n_8, Int32.toNatClampNeg, Int64.lt_iff_toInt_lt, Int64.le_iff_toInt_le, ← Int64.toInt_inj, Int64.reduceToInt, Int32.toInt_toInt64, lg_cmp_ge, lg_cmp_le, lg_cmp_gt, lg_cmp_lt, lg_cmp_eq, Bool.false_eq_true, Bool.true_eq_false, reduceCtorEq, false_iff, true_iff, iff_true, iff_false, and_true, true_and, and_false, false_and, reduceIte, ite_true, ite_false, eq_self] at *)) <;> omega), trivial⟩ rfl
set_option maxHeartbeats 4000000 in
theorem sp_X9_beginEndless (G : kG9) {d : Nat} (hd : 1 ≤ d) (σ : St) (r1 : 0 ≤ (gi σ 60 12).toInt ∧ (gi σ 60 12).toInt ≤ 4) : Ct G M_X9_beginEndless d [.ref 60] σ (fun r σ' => Sm 60 65 σ σ' ∧ (0 ≤ (gi σ' 60 12).toInt ∧ (gi σ' 60 12).toInt ≤ 4) ∧ True) := by
  refine wa_start (by decide) rfl (Nat.le_of_ble_eq_true rfl) (lv := [(0, .ref 60)]) rfl o_X9_beginEndless_0 rfl ?_
  refine wa_aload_n (i := 0) rfl rfl ?_
  refine wa_getr ck_9 fl_9_22 ly_60 rf_60_3 ?_
  refine wa_lconst (v := 0) (by decide) ?_
  refine wa_Sv (d9 := d - 1) [.ref 64, .long _] [] (sp_J7_fill_d0a16_at_64 G (d := d - 1) (by omega) σ _) (rfl) rfl rfl (zr (by omega)) mk_J7_fill_d0a16 ml_9_147 (Nat.le_of_ble_eq_true rfl) (fun s1 hs1 => ?_)
  obtain ⟨fs1, -⟩ := hs1
  have Fs1 := Sm.tr (Sm.rf 60 65 σ) (Sm.wd fs1 (lo' := 60) (hi' := 65) (by decide) (by decide))
  refine wa_aload_n (i := 0) rfl rfl ?_
  refine wa_lconst (v := 1) (by decide) ?_
  refine wa_putl ck_9 fl_9_37 ly_60 (fun s3 hs3 => ?_)
  have Fs3 : Sm 60 65 σ s3 := by rw [hs3]; exact Sm.sl Fs1 _ _ (by decide) (by decide)
  refine wa_iconst (v := 0) (by decide) ?_
  refine wa_istore_nD (lv' := [(1, .int 0), (0, .ref 60)]) (i := 1) rfl (by decide) rfl ?_
  refine wa_pick [1, 0] rfl ?_
  have hi6 : ∀ (n9_15 : Nat) (l1 : Int32) (s4 : St), ((Sm 60 65 σ s4) ∧ (gi s4 60 12 = gi σ 60 12) ∧ (0 ≤ l1.toInt) ∧ (True)) → (2147483647 - l1.toInt).toNat = n9_15 → WA G M_X9_beginEndless (ZM G M_X9_beginEndless d (fun r σ' => Sm 60 65 σ σ' ∧ (0 ≤ (gi σ' 60 12).toInt ∧ (gi σ' 60 12).toInt ≤ 4) ∧ True)) B_X9_beginEndless_15 [(0, .ref 60), (1, .int l1)] [] s4 := by
    intro n9_15
    induction n9_15 using Nat.strongRecOn with
    | _ n9_15 ih5 =>
      intro l1 s4 i9 m9_15
      obtain ⟨Fs4, khi6_0, jhi6_0, -⟩ := i9
      have ul1 := Int32.toInt_lt l1
      have wl1 := Int32.le_toInt l1
      refine wa_iload_n (i := 1) rfl rfl ?_
      refine wa_iconst (v := 4) (by decide) ?_
      refine wa_icmp_ge o_X9_beginEndless_61 (by decide) (fun h7 => ?_) (fun h7 => ?_)
      · refine wa_return (st := []) rfl rfl ?_
        exact ⟨Fs4, (by rw [khi6_0]; first | assumption | (((try simp only [vp_in_iff, Int32.lt_iff_toInt_lt, Int32.le_iff_toInt_le, ← Int32.toInt_inj, Int32.reduceToInt, n_1, n_2, n_8, Int32.toNatClampNeg, Int64.lt_iff_toInt_lt, Int64.le_iff_toInt_le, ← Int64.toInt_inj, Int64.reduceToInt, Int32.toInt_toInt64, lg_cmp_ge, lg_cmp_le, lg_cmp_gt, lg_cmp_lt, lg_cmp_eq, Bool.false_eq_true, Bool.true_eq_false, reduceCtorEq, false_iff, true_iff, iff_true, iff_false, and_true, true_and, and_false, false_and, reduceIte, ite_true, ite_false, eq_self] at *)) <;> omega)), trivial⟩
      · have mh7 := nle_mx h7
        refine wa_aload_n (i := 0) rfl rfl ?_
        refine wa_getr ck_9 fl_9_22 ly_60 rf_60_3 ?_
        refine wa_iload_n (i := 1) rfl rfl ?_
        refine wa_iconst (v := 4) (by decide) ?_
        refine wa_imul ?_
        refine wa_top (fun v8 hv8 => ?_)
        have tv8 := i_mulT hv8
        clear hv8
        refine wa_iload_n (i := 1) rfl rfl ?_
        refine wa_iadd ?_
        refine wa_top (fun v9 hv9 => ?_)
        have tv9 := i_addT hv9
        clear hv9
        refine wa_aload_n (i := 0) rfl rfl ?_
        refine wa_getr ck_9 fl_9_15 ly_60 rf_60_1 ?_
        refine wa_iload_n (i := 1) rfl rfl ?_
        refine wa_lald ly_62 (by ((try simp only [vp_in_iff, Int32.lt_iff_toInt_lt, Int32.le_iff_toInt_le, ← Int32.toInt_inj, Int32.reduceToInt, n_1, n_2, n_8, Int32.toNatClampNeg, Int64.lt_iff_toInt_lt, Int64.le_iff_toInt_le, ← Int64.toInt_inj, Int64.reduceToInt, Int32.toInt_toInt64, lg_cmp_ge, lg_cmp_le, lg_cmp_gt, lg_cmp_lt, lg_cmp_eq, Bool.false_eq_true, Bool.true_eq_false, reduceCtorEq, false_iff, true_iff, iff_true, iff_false, and_true, true_and, and_false, false_and, reduceIte, ite_true, ite_false, eq_self] at *)) <;> omega) ?_
        refine wa_lconst (v := 0) (by decide) ?_
        refine wa_lcmp ?_
        refine wa_top (fun v10 hv10 => ?_)
        have tv10 := i_cmpT hv10
        clear hv10
        refine wa_if_le o_X9_beginEndless_44 (by decide) (fun h11 => ?_) (fun h11 => ?_)
        · refine wa_ldc2 (v := (-1)) (allW_in (kT_7 _ (List.mem_of_getElem? (i := 160) rfl)) rfl) ?_
          refine wa_last ly_64 (by ((try simp only [vp_in_iff, Int32.lt_iff_toInt_lt, Int32.le_iff_toInt_le, ← Int32.toInt_inj, Int32.reduceToInt, n_1, n_2, n_8, Int32.toNatClampNeg, Int64.lt_iff_toInt_lt, Int64.le_iff_toInt_le, ← Int64.toInt_inj, Int64.reduceToInt, Int32.toInt_toInt64, lg_cmp_ge, lg_cmp_le, lg_cmp_gt, lg_cmp_lt, lg_cmp_eq, Bool.false_eq_true, Bool.true_eq_false, reduceCtorEq, false_iff, true_iff, iff_true, iff_false, and_true, true_and, and_false, false_and, reduceIte, ite_true, ite_false, eq_self] at *)) <;> omega) (fun s12 hs12 => ?_)
          have Fs12 : Sm 60 65 σ s12 := by rw [hs12]; exact Sm.sl Fs4 _ _ (by decide) (by decide)
          refine wa_aload_n (i := 0) rfl rfl ?_
          refine wa_getr ck_9 fl_9_18 ly_60 rf_60_2 ?_
          refine wa_iload_n (i := 1) rfl rfl ?_
          refine wa_iconst (v := (-1)) (by decide) ?_
          refine wa_iast ly_63 (by ((try simp only [vp_in_iff, Int32.lt_iff_toInt_lt, Int32.le_iff_toInt_le, ← Int32.toInt_inj, Int32.reduceToInt, n_1, n_2, n_8, Int32.toNatClampNeg, Int64.lt_iff_toInt_lt, Int64.le_iff_toInt_le, ← Int64.toInt_inj, Int64.reduceToInt, Int32.toInt_toInt64, lg_cmp_ge, lg_cmp_le, lg_cmp_gt, lg_cmp_lt, lg_cmp_eq, Bool.false_eq_true, Bool.true_eq_false, reduceCtorEq, false_iff, true_iff, iff_true, iff_false, and_true, true_and, and_false, false_and, reduceIte, ite_true, ite_false, eq_self] at *)) <;> omega) (fun s13 hs13 => ?_)
          have Fs13 : Sm 60 65 σ s13 := by rw [hs13]; exact Sm.si Fs12 _ _ (by decide) (by decide)
          refine wa_iinc (v := (1)) (lv' := fun y14 => [(1, .int y14), (0, .ref 60)]) (by decide) rfl (by decide) (fun _ => rfl) (fun y14 hy14 => ?_)
          have ty14 := i_addT hy14.symm
          clear hy14
          refine wa_goto o_X9_beginEndless_15 (by decide) ?_
          refine wa_pick [1, 0] rfl ?_
          exact ih5 _ (by ((try simp only [vp_in_iff, Int32.lt_iff_toInt_lt, Int32.le_iff_toInt_le, ← Int32.toInt_inj, Int32.reduceToInt, n_1, n_2, n_8, Int32.toNatClampNeg, Int64.lt_iff_toInt_lt, Int64.le_iff_toInt_le, ← Int64.toInt_inj, Int64.reduceToInt, Int32.toInt_toInt64, lg_cmp_ge, lg_cmp_le, lg_cmp_gt, lg_cmp_lt, lg_cmp_eq, Bool.false_eq_true, Bool.true_eq_false, reduceCtorEq, false_iff, true_iff, iff_true, iff_false, and_true, true_and, and_false, false_and, reduceIte, ite_true, ite_false, eq_self] at *)) <;> omega) _ _ ⟨Fs13, ((nxq_gi_si hs13 (by decide)).trans ((nx_gi_sl hs12).trans (khi6_0))), (by ((try simp only [vp_in_iff, Int32.lt_iff_toInt_lt, Int32.le_iff_toInt_le, ← Int32.toInt_inj, Int32.reduceToInt, n_1, n_2, n_8, Int32.toNatClampNeg, Int64.lt_iff_toInt_lt, Int64.le_iff_toInt_le, ← Int64.toInt_inj, Int64.reduceToInt, Int32.toInt_toInt64, lg_cmp_ge, lg_cmp_le, lg_cmp_gt, lg_cmp_lt, lg_cmp_eq, Bool.false_eq_true, Bool.true_eq_false, reduceCtorEq, false_iff, true_iff, iff_true, iff_false, and_true, true_and, and_false, false_and, reduceIte, ite_true, ite_false, eq_self] at *)) <;> omega), trivial⟩ rfl
        · refine wa_lconst (v := 1) (by decide) ?_
          refine wa_goto o_X9_beginEndless_47 (by decide) ?_
          refine wa_last ly_64 (by ((try simp only [vp_in_iff, Int32.lt_iff_toInt_lt, Int32.le_iff_toInt_le, ← Int32.toInt_inj, Int32.reduceToInt, n_1, n_2, n_8, Int32.toNatClampNeg, Int64.lt_iff_toInt_lt, Int64.le_iff_toInt_le, ← Int64.toInt_inj, Int64.reduceToInt, Int32.toInt_toInt64, lg_cmp_ge, lg_cmp_le, lg_cmp_gt, lg_cmp_lt, lg_cmp_eq, Bool.false_eq_true, Bool.true_eq_false, reduceCtorEq, false_iff, true_iff, iff_true, iff_false, and_true, true_and, and_false, false_and, reduceIte, ite_true, ite_false, eq_self] at *)) <;> omega) (fun s15 hs15 => ?_)
          have Fs15 : Sm 60 65 σ s15 := by rw [hs15]; exact Sm.sl Fs4 _ _ (by decide) (by decide)
          refine wa_aload_n (i := 0) rfl rfl ?_
          refine wa_getr ck_9 fl_9_18 ly_60 rf_60_2 ?_
          refine wa_iload_n (i := 1) rfl rfl ?_
          refine wa_iconst (v := (-1)) (by decide) ?_
          refine wa_iast ly_63 (by ((try simp only [vp_in_iff, Int32.lt_iff_toInt_lt, Int32.le_iff_toInt_le, ← Int32.toInt_inj, Int32.reduceToInt, n_1, n_2, n_8, Int32.toNatClampNeg, Int64.lt_iff_toInt_lt, Int64.le_iff_toInt_le, ← Int64.toInt_inj, Int64.reduceToInt, Int32.toInt_toInt64, lg_cmp_ge, lg_cmp_le, lg_cmp_gt, lg_cmp_lt, lg_cmp_eq, Bool.false_eq_true, Bool.true_eq_false, reduceCtorEq, false_iff, true_iff, iff_true, iff_false, and_true, true_and, and_false, false_and, reduceIte, ite_true, ite_false, eq_self] at *)) <;> omega) (fun s16 hs16 => ?_)
          have Fs16 : Sm 60 65 σ s16 := by rw [hs16]; exact Sm.si Fs15 _ _ (by decide) (by decide)
          refine wa_iinc (v := (1)) (lv' := fun y17 => [(1, .int y17), (0, .ref 60)]) (by decide) rfl (by decide) (fun _ => rfl) (fun y17 hy17 => ?_)
          have ty17 := i_addT hy17.symm
          clear hy17
          refine wa_goto o_X9_beginEndless_15 (by decide) ?_
          refine wa_pick [1, 0] rfl ?_
          exact ih5 _ (by ((try simp only [vp_in_iff, Int32.lt_iff_toInt_lt, Int32.le_iff_toInt_le, ← Int32.toInt_inj, Int32.reduceToInt, n_1, n_2, n_8, Int32.toNatClampNeg, Int64.lt_iff_toInt_lt, Int64.le_iff_toInt_le, ← Int64.toInt_inj, Int64.reduceToInt, Int32.toInt_toInt64, lg_cmp_ge, lg_cmp_le, lg_cmp_gt, lg_cmp_lt, lg_cmp_eq, Bool.false_eq_true, Bool.true_eq_false, reduceCtorEq, false_iff, true_iff, iff_true, iff_false, and_true, true_and, and_false, false_and, reduceIte, ite_true, ite_false, eq_self] at *)) <;> omega) _ _ ⟨Fs16, ((nxq_gi_si hs16 (by decide)).trans ((nx_gi_sl hs15).trans (khi6_0))), (by ((try simp only [vp_in_iff, Int32.lt_iff_toInt_lt, Int32.le_iff_toInt_le, ← Int32.toInt_inj, Int32.reduceToInt, n_1, n_2, n_8, Int32.toNatClampNeg, Int64.lt_iff_toInt_lt, Int64.le_iff_toInt_le, ← Int64.toInt_inj, Int64.reduceToInt, Int32.toInt_toInt64, lg_cmp_ge, lg_cmp_le, lg_cmp_gt, lg_cmp_lt, lg_cmp_eq, Bool.false_eq_true, Bool.true_eq_false, reduceCtorEq, false_iff, true_iff, iff_true, iff_false, and_true, true_and, and_false, false_and, reduceIte, ite_true, ite_false, eq_self] at *)) <;> omega), trivial⟩ rfl
  exact hi6 _ _ _ ⟨Fs3, ((nx_gi_sl hs3).trans (Sm.gi fs1 12 (Or.inl (by decide)))), (by ((try simp only [vp_in_iff, Int32.lt_iff_toInt_lt, Int32.le_iff_toInt_le, ← Int32.toInt_inj, Int32.reduceToInt, n_1, n_2, n_8, Int32.toNatClampNeg, Int64.lt_iff_toInt_lt, Int64.le_iff_toInt_le, ← Int64.toInt_inj, Int64.reduceToInt, Int32.toInt_toInt64, lg_cmp_ge, lg_cmp_le, lg_cmp_gt, lg_cmp_lt, lg_cmp_eq, Bool.false_eq_true, Bool.true_eq_false, reduceCtorEq, false_iff, true_iff, iff_true, iff_false, and_true, true_and, and_false, false_and, reduceIte, ite_true, ite_false, eq_self] at *)) <;> omega), trivial⟩ rfl
set_option maxHeartbeats 4000000 in
theorem sp_X9_locate (G : kG9) {d : Nat} (hd : 1 ≤ d) (σ : St) (r1 : 0 ≤ (gi σ 60 12).toInt ∧ (gi σ 60 12).toInt ≤ 4) : Ct G M_X9_locate d [.ref 60] σ (fun r σ' => Sm 60 68 σ σ' ∧ (0 ≤ (gi σ' 60 12).toInt ∧ (gi σ' 60 12).toInt ≤ 4) ∧ True) := by
  refine wa_start (by decide) rfl (Nat.le_of_ble_eq_true rfl) (lv := [(0, .ref 60)]) rfl o_X9_locate_0 rfl ?_
  refine wa_aload_n (i := 0) rfl rfl ?_
  refine wa_aload_n (i := 0) rfl rfl ?_
  refine wa_getl ck_9 fl_9_37 ly_60 ?_
  refine wa_putl ck_9 fl_9_41 ly_60 (fun s1 hs1 => ?_)
  have Fs1 : Sm 60 68 σ s1 := by rw [hs1]; exact Sm.sl (Sm.rf 60 68 σ) _ _ (by decide) (by decide)
  refine wa_iconst (v := 0) (by decide) ?_
  refine wa_istore_nD (lv' := [(1, .int 0), (0, .ref 60)]) (i := 1) rfl (by decide) rfl ?_
  refine wa_pick [1, 0] rfl ?_
  have hi4 : ∀ (n9_10 : Nat) (l1 : Int32) (s2 : St), ((Sm 60 68 σ s2) ∧ (gi s2 60 12 = gi σ 60 12) ∧ (gl s2 60 9 = gl σ 60 9) ∧ (0 ≤ l1.toInt) ∧ (True)) → (2147483647 - l1.toInt).toNat = n9_10 → WA G M_X9_locate (ZM G M_X9_locate d (fun r σ' => Sm 60 68 σ σ' ∧ (0 ≤ (gi σ' 60 12).toInt ∧ (gi σ' 60 12).toInt ≤ 4) ∧ True)) B_X9_locate_10 [(0, .ref 60), (1, .int l1)] [] s2 := by
    intro n9_10
    induction n9_10 using Nat.strongRecOn with
    | _ n9_10 ih3 =>
      intro l1 s2 i9 m9_10
      obtain ⟨Fs2, khi4_0, khi4_1, jhi4_0, -⟩ := i9
      have ul1 := Int32.toInt_lt l1
      have wl1 := Int32.le_toInt l1
      refine wa_iload_n (i := 1) rfl rfl ?_
      refine wa_iconst (v := 4) (by decide) ?_
      refine wa_icmp_ge o_X9_locate_107 (by decide) (fun h5 => ?_) (fun h5 => ?_)
      · refine wa_return (st := []) rfl rfl ?_
        exact ⟨Fs2, (by rw [khi4_0]; first | assumption | (((try simp only [vp_in_iff, Int32.lt_iff_toInt_lt, Int32.le_iff_toInt_le, ← Int32.toInt_inj, Int32.reduceToInt, n_1, n_2, n_8, Int32.toNatClampNeg, Int64.lt_iff_toInt_lt, Int64.le_iff_toInt_le, ← Int64.toInt_inj, Int64.reduceToInt, Int32.toInt_toInt64, lg_cmp_ge, lg_cmp_le, lg_cmp_gt, lg_cmp_lt, lg_cmp_eq, Bool.false_eq_true, Bool.true_eq_false, reduceCtorEq, false_iff, true_iff, iff_true, iff_false, and_true, true_and, and_false, false_and, reduceIte, ite_true, ite_false, eq_self] at *)) <;> omega)), trivial⟩
      · have mh5 := nle_mx h5
        refine wa_aload_n (i := 0) rfl rfl ?_
        refine wa_getr ck_9 fl_9_28 ly_60 rf_60_5 ?_
        refine wa_iload_n (i := 1) rfl rfl ?_
        refine wa_lconst (v := 0) (by decide) ?_
        refine wa_last ly_66 (by ((try simp only [vp_in_iff, Int32.lt_iff_toInt_lt, Int32.le_iff_toInt_le, ← Int32.toInt_inj, Int32.reduceToInt, n_1, n_2, n_8, Int32.toNatClampNeg, Int64.lt_iff_toInt_lt, Int64.le_iff_toInt_le, ← Int64.toInt_inj, Int64.reduceToInt, Int32.toInt_toInt64, lg_cmp_ge, lg_cmp_le, lg_cmp_gt, lg_cmp_lt, lg_cmp_eq, Bool.false_eq_true, Bool.true_eq_false, reduceCtorEq, false_iff, true_iff, iff_true, iff_false, and_true, true_and, and_false, false_and, reduceIte, ite_true, ite_false, eq_self] at *)) <;> omega) (fun s6 hs6 => ?_)
        have Fs6 : Sm 60 68 σ s6 := by rw [hs6]; exact Sm.sl Fs2 _ _ (by decide) (by decide)
        refine wa_aload_n (i := 0) rfl rfl ?_
        refine wa_getr ck_9 fl_9_31 ly_60 rf_60_6 ?_
        refine wa_iload_n (i := 1) rfl rfl ?_
        refine wa_lconst (v := 0) (by decide) ?_
        refine wa_last ly_67 (by ((try simp only [vp_in_iff, Int32.lt_iff_toInt_lt, Int32.le_iff_toInt_le, ← Int32.toInt_inj, Int32.reduceToInt, n_1, n_2, n_8, Int32.toNatClampNeg, Int64.lt_iff_toInt_lt, Int64.le_iff_toInt_le, ← Int64.toInt_inj, Int64.reduceToInt, Int32.toInt_toInt64, lg_cmp_ge, lg_cmp_le, lg_cmp_gt, lg_cmp_lt, lg_cmp_eq, Bool.false_eq_true, Bool.true_eq_false, reduceCtorEq, false_iff, true_iff, iff_true, iff_false, and_true, true_and, and_false, false_and, reduceIte, ite_true, ite_false, eq_self] at *)) <;> omega) (fun s7 hs7 => ?_)
        have Fs7 : Sm 60 68 σ s7 := by rw [hs7]; exact Sm.sl Fs6 _ _ (by decide) (by decide)
        refine wa_iconst (v := 0) (by decide) ?_
        refine wa_istore_nD (lv' := [(2, .int 0), (0, .ref 60), (1, .int l1)]) (i := 2) rfl (by decide) rfl ?_
        refine wa_pick [1, 2, 0] rfl ?_
        have hi10 : ∀ (n9_31 : Nat) (l2 : Int32) (s8 : St), ((Sm 60 68 σ s8) ∧ (gi s8 60 12 = gi σ 60 12) ∧ (gl s8 60 9 = gl σ 60 9) ∧ (0 ≤ l2.toInt) ∧ (True)) → (2147483647 - l2.toInt).toNat = n9_31 → WA G M_X9_locate (ZM G M_X9_locate d (fun r σ' => Sm 60 68 σ σ' ∧ (0 ≤ (gi σ' 60 12).toInt ∧ (gi σ' 60 12).toInt ≤ 4) ∧ True)) B_X9_locate_31 [(0, .ref 60), (1, .int l1), (2, .int l2)] [] s8 := by
          intro n9_31
          induction n9_31 using Nat.strongRecOn with
          | _ n9_31 ih9 =>
            intro l2 s8 i9 m9_31
            obtain ⟨Fs8, khi10_0, khi10_1, jhi10_0, -⟩ := i9
            have ul2 := Int32.toInt_lt l2
            have wl2 := Int32.le_toInt l2
            refine wa_iload_n (i := 2) rfl rfl ?_
            refine wa_aload_n (i := 0) rfl rfl ?_
            refine wa_geti ck_9 fl_9_62 ly_60 ?_
            refine wa_rw (khi10_0) ?_
            refine wa_icmp_ge o_X9_locate_101 (by decide) (fun h11 => ?_) (fun h11 => ?_)
            · refine wa_iinc (v := (1)) (lv' := fun y12 => [(1, .int y12), (0, .ref 60), (2, .int l2)]) (by decide) rfl (by decide) (fun _ => rfl) (fun y12 hy12 => ?_)
              have ty12 := i_addT hy12.symm
              clear hy12
              refine wa_goto o_X9_locate_10 (by decide) ?_
              refine wa_pick [1, 0] rfl ?_
              exact ih3 _ (by ((try simp only [vp_in_iff, Int32.lt_iff_toInt_lt, Int32.le_iff_toInt_le, ← Int32.toInt_inj, Int32.reduceToInt, n_1, n_2, n_8, Int32.toNatClampNeg, Int64.lt_iff_toInt_lt, Int64.le_iff_toInt_le, ← Int64.toInt_inj, Int64.reduceToInt, Int32.toInt_toInt64, lg_cmp_ge, lg_cmp_le, lg_cmp_gt, lg_cmp_lt, lg_cmp_eq, Bool.false_eq_true, Bool.true_eq_false, reduceCtorEq, false_iff, true_iff, iff_true, iff_false, and_true, true_and, and_false, false_and, reduceIte, ite_true, ite_false, eq_self] at *)) <;> omega) _ _ ⟨Fs8, (khi10_0), (khi10_1), (by ((try simp only [vp_in_iff, Int32.lt_iff_toInt_lt, Int32.le_iff_toInt_le, ← Int32.toInt_inj, Int32.reduceToInt, n_1, n_2, n_8, Int32.toNatClampNeg, Int64.lt_iff_toInt_lt, Int64.le_iff_toInt_le, ← Int64.toInt_inj, Int64.reduceToInt, Int32.toInt_toInt64, lg_cmp_ge, lg_cmp_le, lg_cmp_gt, lg_cmp_lt, lg_cmp_eq, Bool.false_eq_true, Bool.true_eq_false, reduceCtorEq, false_iff, true_iff, iff_true, iff_false, and_true, true_and, and_false, false_and, reduceIte, ite_true, ite_false, eq_self] at *)) <;> omega), trivial⟩ rfl
            · have mh11 := nle_mx h11
              refine wa_aload_n (i := 0) rfl rfl ?_
              refine wa_getr ck_9 fl_9_22 ly_60 rf_60_3 ?_
              refine wa_iload_n (i := 2) rfl rfl ?_
              refine wa_iconst (v := 4) (by decide) ?_
              refine wa_imul ?_
              refine wa_top (fun v13 hv13 => ?_)
              have tv13 := i_mulT hv13
              clear hv13
              refine wa_iload_n (i := 1) rfl rfl ?_
              refine wa_iadd ?_
              refine wa_top (fun v14 hv14 => ?_)
              have tv14 := i_addT hv14
              clear hv14
              refine wa_lald ly_64 (by ((try simp only [vp_in_iff, Int32.lt_iff_toInt_lt, Int32.le_iff_toInt_le, ← Int32.toInt_inj, Int32.reduceToInt, n_1, n_2, n_8, Int32.toNatClampNeg, Int64.lt_iff_toInt_lt, Int64.le_iff_toInt_le, ← Int64.toInt_inj, Int64.reduceToInt, Int32.toInt_toInt64, lg_cmp_ge, lg_cmp_le, lg_cmp_gt, lg_cmp_lt, lg_cmp_eq, Bool.false_eq_true, Bool.true_eq_false, reduceCtorEq, false_iff, true_iff, iff_true, iff_false, and_true, true_and, and_false, false_and, reduceIte, ite_true, ite_false, eq_self] at *)) <;> omega) ?_
              refine wa_lstore_nD (lv' := [(3, .long (gl s8 64 (v14).toNatClampNeg)), (0, .ref 60), (1, .int l1), (2, .int l2)]) (i := 3) rfl (by decide) rfl ?_
              refine wa_aload_n (i := 0) rfl rfl ?_
              refine wa_getr ck_9 fl_9_18 ly_60 rf_60_2 ?_
              refine wa_iload_n (i := 2) rfl rfl ?_
              refine wa_iald ly_63 (by ((try simp only [vp_in_iff, Int32.lt_iff_toInt_lt, Int32.le_iff_toInt_le, ← Int32.toInt_inj, Int32.reduceToInt, n_1, n_2, n_8, Int32.toNatClampNeg, Int64.lt_iff_toInt_lt, Int64.le_iff_toInt_le, ← Int64.toInt_inj, Int64.reduceToInt, Int32.toInt_toInt64, lg_cmp_ge, lg_cmp_le, lg_cmp_gt, lg_cmp_lt, lg_cmp_eq, Bool.false_eq_true, Bool.true_eq_false, reduceCtorEq, false_iff, true_iff, iff_true, iff_false, and_true, true_and, and_false, false_and, reduceIte, ite_true, ite_false, eq_self] at *)) <;> omega) ?_
              refine wa_iconst (v := (-1)) (by decide) ?_
              refine wa_icmp_ne o_X9_locate_73 (by decide) (fun h15 => ?_) (fun h15 => ?_)
              · refine wa_aload_n (i := 0) rfl rfl ?_
                refine wa_getr ck_9 fl_9_28 ly_60 rf_60_5 ?_
                refine wa_iload_n (i := 1) rfl rfl ?_
                refine wa_dup2 rfl rfl ?_
                refine wa_lald ly_66 (by ((try simp only [vp_in_iff, Int32.lt_iff_toInt_lt, Int32.le_iff_toInt_le, ← Int32.toInt_inj, Int32.reduceToInt, n_1, n_2, n_8, Int32.toNatClampNeg, Int64.lt_iff_toInt_lt, Int64.le_iff_toInt_le, ← Int64.toInt_inj, Int64.reduceToInt, Int32.toInt_toInt64, lg_cmp_ge, lg_cmp_le, lg_cmp_gt, lg_cmp_lt, lg_cmp_eq, Bool.false_eq_true, Bool.true_eq_false, reduceCtorEq, false_iff, true_iff, iff_true, iff_false, and_true, true_and, and_false, false_and, reduceIte, ite_true, ite_false, eq_self] at *)) <;> omega) ?_
                refine wa_lload_n (i := 3) rfl rfl ?_
                refine wa_aload_n (i := 0) rfl rfl ?_
                refine wa_aload_n (i := 0) rfl rfl ?_
                refine wa_getr ck_9 fl_9_18 ly_60 rf_60_2 ?_
                refine wa_iload_n (i := 2) rfl rfl ?_
                refine wa_iald ly_63 (by ((try simp only [vp_in_iff, Int32.lt_iff_toInt_lt, Int32.le_iff_toInt_le, ← Int32.toInt_inj, Int32.reduceToInt, n_1, n_2, n_8, Int32.toNatClampNeg, Int64.lt_iff_toInt_lt, Int64.le_iff_toInt_le, ← Int64.toInt_inj, Int64.reduceToInt, Int32.toInt_toInt64, lg_cmp_ge, lg_cmp_le, lg_cmp_gt, lg_cmp_lt, lg_cmp_eq, Bool.false_eq_true, Bool.true_eq_false, reduceCtorEq, false_iff, true_iff, iff_true, iff_false, and_true, true_and, and_false, false_and, reduceIte, ite_true, ite_false, eq_self] at *)) <;> omega) ?_
                refine wa_iconst (v := 4) (by decide) ?_
                refine wa_Vl (d9 := d - 1) [.int _, .int _] [.long (gl s8 64 (v14).toNatClampNeg), .long (gl s8 66 (l1).toNatClampNeg), .int l1, .ref 66] (sp_X9_rowNumber G (d := d - 1) (by omega) s8 _ _) (rfl) rfl rfl (zr (by omega)) mk_X9_rowNumber ly_60 ml_9_99 (Nat.le_of_ble_eq_true rfl) (fun x17 s16 hs16 => ?_)
                obtain ⟨zs16, -⟩ := pL hs16
                subst zs16
                refine wa_lmul ?_
                refine wa_topl (fun v18 hv18 => ?_)
                clear hv18
                refine wa_ladd ?_
                refine wa_topl (fun v19 hv19 => ?_)
                clear hv19
                refine wa_last ly_66 (by ((try simp only [vp_in_iff, Int32.lt_iff_toInt_lt, Int32.le_iff_toInt_le, ← Int32.toInt_inj, Int32.reduceToInt, n_1, n_2, n_8, Int32.toNatClampNeg, Int64.lt_iff_toInt_lt, Int64.le_iff_toInt_le, ← Int64.toInt_inj, Int64.reduceToInt, Int32.toInt_toInt64, lg_cmp_ge, lg_cmp_le, lg_cmp_gt, lg_cmp_lt, lg_cmp_eq, Bool.false_eq_true, Bool.true_eq_false, reduceCtorEq, false_iff, true_iff, iff_true, iff_false, and_true, true_and, and_false, false_and, reduceIte, ite_true, ite_false, eq_self] at *)) <;> omega) (fun s20 hs20 => ?_)
                have Fs20 : Sm 60 68 σ s20 := by rw [hs20]; exact Sm.sl Fs8 _ _ (by decide) (by decide)
                refine wa_iinc (v := (1)) (lv' := fun y21 => [(2, .int y21), (3, .long (gl s8 64 (v14).toNatClampNeg)), (0, .ref 60), (1, .int l1)]) (by decide) rfl (by decide) (fun _ => rfl) (fun y21 hy21 => ?_)
                have ty21 := i_addT hy21.symm
                clear hy21
                refine wa_goto o_X9_locate_31 (by decide) ?_
                refine wa_pick [2, 3, 0] rfl ?_
                exact ih9 _ (by ((try simp only [vp_in_iff, Int32.lt_iff_toInt_lt, Int32.le_iff_toInt_le, ← Int32.toInt_inj, Int32.reduceToInt, n_1, n_2, n_8, Int32.toNatClampNeg, Int64.lt_iff_toInt_lt, Int64.le_iff_toInt_le, ← Int64.toInt_inj, Int64.reduceToInt, Int32.toInt_toInt64, lg_cmp_ge, lg_cmp_le, lg_cmp_gt, lg_cmp_lt, lg_cmp_eq, Bool.false_eq_true, Bool.true_eq_false, reduceCtorEq, false_iff, true_iff, iff_true, iff_false, and_true, true_and, and_false, false_and, reduceIte, ite_true, ite_false, eq_self] at *)) <;> omega) _ _ ⟨Fs20, ((nx_gi_sl hs20).trans (khi10_0)), ((nxq_gl_sl hs20 (by decide)).trans (khi10_1)), (by ((try simp only [vp_in_iff, Int32.lt_iff_toInt_lt, Int32.le_iff_toInt_le, ← Int32.toInt_inj, Int32.reduceToInt, n_1, n_2, n_8, Int32.toNatClampNeg, Int64.lt_iff_toInt_lt, Int64.le_iff_toInt_le, ← Int64.toInt_inj, Int64.reduceToInt, Int32.toInt_toInt64, lg_cmp_ge, lg_cmp_le, lg_cmp_gt, lg_cmp_lt, lg_cmp_eq, Bool.false_eq_true, Bool.true_eq_false, reduceCtorEq, false_iff, true_iff, iff_true, iff_false, and_true, true_and, and_false, false_and, reduceIte, ite_true, ite_false, eq_self] at *)) <;> omega), trivial⟩ rfl
              · refine wa_aload_n (i := 0) rfl rfl ?_
                refine wa_getr ck_9 fl_9_31 ly_60 rf_60_6 ?_
                refine wa_iload_n (i := 1) rfl rfl ?_
                refine wa_dup2 rfl rfl ?_
                refine wa_lald ly_67 (by ((try simp only [vp_in_iff, Int32.lt_iff_toInt_lt, Int32.le_iff_toInt_le, ← Int32.toInt_inj, Int32.reduceToInt, n_1, n_2, n_8, Int32.toNatClampNeg, Int64.lt_iff_toInt_lt, Int64.le_iff_toInt_le, ← Int64.toInt_inj, Int64.reduceToInt, Int32.toInt_toInt64, lg_cmp_ge, lg_cmp_le, lg_cmp_gt, lg_cmp_lt, lg_cmp_eq, Bool.false_eq_true, Bool.true_eq_false, reduceCtorEq, false_iff, true_iff, iff_true, iff_false, and_true, true_and, and_false, false_and, reduceIte, ite_true, ite_false, eq_self] at *)) <;> omega) ?_
                refine wa_lload_n (i := 3) rfl rfl ?_
                refine wa_ladd ?_
                refine wa_topl (fun v22 hv22 => ?_)
                clear hv22
                refine wa_last ly_67 (by ((try simp only [vp_in_iff, Int32.lt_iff_toInt_lt, Int32.le_iff_toInt_le, ← Int32.toInt_inj, Int32.reduceToInt, n_1, n_2, n_8, Int32.toNatClampNeg, Int64.lt_iff_toInt_lt, Int64.le_iff_toInt_le, ← Int64.toInt_inj, Int64.reduceToInt, Int32.toInt_toInt64, lg_cmp_ge, lg_cmp_le, lg_cmp_gt, lg_cmp_lt, lg_cmp_eq, Bool.false_eq_true, Bool.true_eq_false, reduceCtorEq, false_iff, true_iff, iff_true, iff_false, and_true, true_and, and_false, false_and, reduceIte, ite_true, ite_false, eq_self] at *)) <;> omega) (fun s23 hs23 => ?_)
                have Fs23 : Sm 60 68 σ s23 := by rw [hs23]; exact Sm.sl Fs8 _ _ (by decide) (by decide)
                refine wa_goto o_X9_locate_95 (by decide) ?_
                refine wa_iinc (v := (1)) (lv' := fun y24 => [(2, .int y24), (3, .long (gl s8 64 (v14).toNatClampNeg)), (0, .ref 60), (1, .int l1)]) (by decide) rfl (by decide) (fun _ => rfl) (fun y24 hy24 => ?_)
                have ty24 := i_addT hy24.symm
                clear hy24
                refine wa_goto o_X9_locate_31 (by decide) ?_
                refine wa_pick [2, 3, 0] rfl ?_
                exact ih9 _ (by ((try simp only [vp_in_iff, Int32.lt_iff_toInt_lt, Int32.le_iff_toInt_le, ← Int32.toInt_inj, Int32.reduceToInt, n_1, n_2, n_8, Int32.toNatClampNeg, Int64.lt_iff_toInt_lt, Int64.le_iff_toInt_le, ← Int64.toInt_inj, Int64.reduceToInt, Int32.toInt_toInt64, lg_cmp_ge, lg_cmp_le, lg_cmp_gt, lg_cmp_lt, lg_cmp_eq, Bool.false_eq_true, Bool.true_eq_false, reduceCtorEq, false_iff, true_iff, iff_true, iff_false, and_true, true_and, and_false, false_and, reduceIte, ite_true, ite_false, eq_self] at *)) <;> omega) _ _ ⟨Fs23, ((nx_gi_sl hs23).trans (khi10_0)), ((nxq_gl_sl hs23 (by decide)).trans (khi10_1)), (by ((try simp only [vp_in_iff, Int32.lt_iff_toInt_lt, Int32.le_iff_toInt_le, ← Int32.toInt_inj, Int32.reduceToInt, n_1, n_2, n_8, Int32.toNatClampNeg, Int64.lt_iff_toInt_lt, Int64.le_iff_toInt_le, ← Int64.toInt_inj, Int64.reduceToInt, Int32.toInt_toInt64, lg_cmp_ge, lg_cmp_le, lg_cmp_gt, lg_cmp_lt, lg_cmp_eq, Bool.false_eq_true, Bool.true_eq_false, reduceCtorEq, false_iff, true_iff, iff_true, iff_false, and_true, true_and, and_false, false_and, reduceIte, ite_true, ite_false, eq_self] at *)) <;> omega), trivial⟩ rfl
        exact hi10 _ _ _ ⟨Fs7, ((nx_gi_sl hs7).trans ((nx_gi_sl hs6).trans (khi4_0))), ((nxq_gl_sl hs7 (by decide)).trans ((nxq_gl_sl hs6 (by decide)).trans (khi4_1))), (by ((try simp only [vp_in_iff, Int32.lt_iff_toInt_lt, Int32.le_iff_toInt_le, ← Int32.toInt_inj, Int32.reduceToInt, n_1, n_2, n_8, Int32.toNatClampNeg, Int64.lt_iff_toInt_lt, Int64.le_iff_toInt_le, ← Int64.toInt_inj, Int64.reduceToInt, Int32.toInt_toInt64, lg_cmp_ge, lg_cmp_le, lg_cmp_gt, lg_cmp_lt, lg_cmp_eq, Bool.false_eq_true, Bool.true_eq_false, reduceCtorEq, false_iff, true_iff, iff_true, iff_false, and_true, true_and, and_false, false_and, reduceIte, ite_true, ite_false, eq_self] at *)) <;> omega), trivial⟩ rfl
  exact hi4 _ _ _ ⟨Fs1, (nx_gi_sl hs1), (nxk_gl_sl hs1 (by decide)), (by ((try simp only [vp_in_iff, Int32.lt_iff_toInt_lt, Int32.le_iff_toInt_le, ← Int32.toInt_inj, Int32.reduceToInt, n_1, n_2, n_8, Int32.toNatClampNeg, Int64.lt_iff_toInt_lt, Int64.le_iff_toInt_le, ← Int64.toInt_inj, Int64.reduceToInt, Int32.toInt_toInt64, lg_cmp_ge, lg_cmp_le, lg_cmp_gt, lg_cmp_lt, lg_cmp_eq, Bool.false_eq_true, Bool.true_eq_false, reduceCtorEq, false_iff, true_iff, iff_true, iff_false, and_true, true_and, and_false, false_and, reduceIte, ite_true, ite_false, eq_self] at *)) <;> omega), trivial⟩ rfl
set_option maxHeartbeats 4000000 in
theorem sp_X9_signOf (G : kG9) {d : Nat} (hd : 0 ≤ d) (σ : St) (a0 : Int64) (a1 : Int64) : Ct G M_X9_signOf d [.long a0, .long a1] σ (fun r σ' => ∃ x : Int32, r = some (.int x) ∧ σ = σ' ∧ True) := by
  refine wa_start (by decide) rfl (Nat.le_of_ble_eq_true rfl) (lv := [(0, .long a0), (2, .long a1)]) rfl o_X9_signOf_0 rfl ?_
  refine wa_lload_n (i := 0) rfl rfl ?_
  refine wa_lconst (v := 0) (by decide) ?_
  refine wa_lcmp ?_
  refine wa_top (fun v1 hv1 => ?_)
  have tv1 := i_cmpT hv1
  clear hv1
  refine wa_if_ge o_X9_signOf_10 (by decide) (fun h2 => ?_) (fun h2 => ?_)
  · refine wa_lload_n (i := 0) rfl rfl ?_
    refine wa_lconst (v := 0) (by decide) ?_
    refine wa_lcmp ?_
    refine wa_top (fun v3 hv3 => ?_)
    have tv3 := i_cmpT hv3
    clear hv3
    refine wa_if_gt o_X9_signOf_22 (by decide) (fun h4 => ?_) (fun h4 => ?_)
    · refine wa_iconst (v := 1) (by decide) ?_
      refine wa_goto o_X9_signOf_27 (by decide) ?_
      refine wa_ireturn rfl rfl ?_
      exact ⟨_, rfl, rfl, trivial⟩
    · refine wa_lload_n (i := 2) rfl rfl ?_
      refine wa_lconst (v := 0) (by decide) ?_
      refine wa_lcmp ?_
      refine wa_top (fun v5 hv5 => ?_)
      have tv5 := i_cmpT hv5
      clear hv5
      refine wa_if_le o_X9_signOf_26 (by decide) (fun h6 => ?_) (fun h6 => ?_)
      · refine wa_iconst (v := 0) (by decide) ?_
        refine wa_ireturn rfl rfl ?_
        exact ⟨_, rfl, rfl, trivial⟩
      · refine wa_iconst (v := 1) (by decide) ?_
        refine wa_goto o_X9_signOf_27 (by decide) ?_
        refine wa_ireturn rfl rfl ?_
        exact ⟨_, rfl, rfl, trivial⟩
  · refine wa_iconst (v := (-1)) (by decide) ?_
    refine wa_goto o_X9_signOf_27 (by decide) ?_
    refine wa_ireturn rfl rfl ?_
    exact ⟨_, rfl, rfl, trivial⟩
theorem pad_21g : True := trivial
