set_option maxHeartbeats 4000000 in
theorem sp_X7_check (G : kG9) {d : Nat} (hd : 6 ≤ d) (σ : St) (a1 : Int32) (r1 : 0 ≤ (gi σ 31 13).toInt ∧ (gi σ 31 13).toInt ≤ 3000) (r2 : 0 ≤ (gi σ 41 15).toInt ∧ (gi σ 41 15).toInt ≤ 1100) : Ct G M_X7_check d [.ref 75, .ref 1, .int a1] σ (fun r σ' => ∃ x : Int32, r = some (.int x) ∧ Sm 18 84 σ σ' ∧ (0 ≤ (gi σ' 31 13).toInt ∧ (gi σ' 31 13).toInt ≤ 3000) ∧ (0 ≤ (gi σ' 41 15).toInt ∧ (gi σ' 41 15).toInt ≤ 1100) ∧ True) := by
  refine wa_start (by decide) rfl (Nat.le_of_ble_eq_true rfl) (lv := [(0, .ref 75), (1, .ref 1), (2, .int a1)]) rfl o_X7_check_0 rfl ?_
  have ua1 := Int32.toInt_lt a1
  have wa1 := Int32.le_toInt a1
  refine wa_aload_n (i := 0) rfl rfl ?_
  refine wa_getr ck_7 fl_7_38 ly_75 rf_75_0 ?_
  refine wa_aload_n (i := 1) rfl rfl ?_
  refine wa_iconst (v := 0) (by decide) ?_
  refine wa_iload_n (i := 2) rfl rfl ?_
  refine wa_iconst (v := 1) (by decide) ?_
  refine wa_Vv (d9 := d - 1) [.ref 1, .int _, .int _, .int (bI true)] [] (sp_X3_scan_at_1 G (d := d - 1) (by omega) σ _ _ true) (rfl) rfl rfl (zr (by omega)) mk_X3_scan ly_18 ml_7_50 (Nat.le_of_ble_eq_true rfl) (fun s1 hs1 => ?_)
  obtain ⟨fs1, cx2_1, -⟩ := hs1
  have Fs1 := Sm.tr (Sm.rf 18 84 σ) (Sm.wd fs1 (lo' := 18) (hi' := 84) (by decide) (by decide))
  refine wa_aload_n (i := 0) rfl rfl ?_
  refine wa_iconst (v := 0) (by decide) ?_
  refine wa_puti ck_7 fl_7_46 ly_75 (fun s3 hs3 => ?_)
  have Fs3 : Sm 18 84 σ s3 := by rw [hs3]; exact Sm.si Fs1 _ _ (by decide) (by decide)
  refine wa_aload_n (i := 0) rfl rfl ?_
  refine wa_iconst (v := 0) (by decide) ?_
  refine wa_puti ck_7 fl_7_56 ly_75 (fun s4 hs4 => ?_)
  have Fs4 : Sm 18 84 σ s4 := by rw [hs4]; exact Sm.si Fs3 _ _ (by decide) (by decide)
  refine wa_aload_n (i := 0) rfl rfl ?_
  refine wa_iconst (v := 0) (by decide) ?_
  refine wa_puti ck_7 fl_7_59 ly_75 (fun s5 hs5 => ?_)
  have Fs5 : Sm 18 84 σ s5 := by rw [hs5]; exact Sm.si Fs4 _ _ (by decide) (by decide)
  refine wa_aload_n (i := 0) rfl rfl ?_
  refine wa_iconst (v := 0) (by decide) ?_
  refine wa_puti ck_7 fl_7_62 ly_75 (fun s6 hs6 => ?_)
  have Fs6 : Sm 18 84 σ s6 := by rw [hs6]; exact Sm.si Fs5 _ _ (by decide) (by decide)
  refine wa_aload_n (i := 0) rfl rfl ?_
  refine wa_iconst (v := 0) (by decide) ?_
  refine wa_puti ck_7 fl_7_65 ly_75 (fun s7 hs7 => ?_)
  have Fs7 : Sm 18 84 σ s7 := by rw [hs7]; exact Sm.si Fs6 _ _ (by decide) (by decide)
  refine wa_iconst (v := 0) (by decide) ?_
  refine wa_istore_nD (lv' := [(3, .int 0), (0, .ref 75), (1, .ref 1), (2, .int a1)]) (i := 3) rfl (by decide) rfl ?_
  refine wa_pick [1, 0] rfl ?_
  have hi10 : ∀ (n9_38 : Nat) (l3 : Int32) (s8 : St), ((Sm 18 84 σ s8) ∧ (gi s8 31 13 = gi σ 31 13) ∧ (gi s8 41 15 = gi σ 41 15) ∧ (gi s8 18 5 = gi s1 18 5) ∧ (0 ≤ l3.toInt) ∧ (True)) → (2147483647 - l3.toInt).toNat = n9_38 → WA G M_X7_check (ZM G M_X7_check d (fun r σ' => ∃ x : Int32, r = some (.int x) ∧ Sm 18 84 σ σ' ∧ (0 ≤ (gi σ' 31 13).toInt ∧ (gi σ' 31 13).toInt ≤ 3000) ∧ (0 ≤ (gi σ' 41 15).toInt ∧ (gi σ' 41 15).toInt ≤ 1100) ∧ True)) B_X7_check_38 [(0, .ref 75), (3, .int l3)] [] s8 := by
    intro n9_38
    induction n9_38 using Nat.strongRecOn with
    | _ n9_38 ih9 =>
      intro l3 s8 i9 m9_38
      obtain ⟨Fs8, khi10_0, khi10_1, khi10_2, jhi10_0, -⟩ := i9
      have ul3 := Int32.toInt_lt l3
      have wl3 := Int32.le_toInt l3
      refine wa_iload_n (i := 3) rfl rfl ?_
      refine wa_sipush (v := 2000) (by decide) ?_
      refine wa_icmp_ge o_X7_check_76 (by decide) (fun h11 => ?_) (fun h11 => ?_)
      · refine wa_aload_n (i := 0) rfl rfl ?_
        refine wa_geti ck_7 fl_7_62 ly_75 ?_
        refine wa_if_eq o_X7_check_85 (by decide) (fun h12 => ?_) (fun h12 => ?_)
        · refine wa_aload_n (i := 0) rfl rfl ?_
          refine wa_geti ck_7 fl_7_56 ly_75 ?_
          refine wa_if_ne o_X7_check_103 (by decide) (fun h13 => ?_) (fun h13 => ?_)
          · refine wa_iconst (v := 0) (by decide) ?_
            refine wa_ireturn rfl rfl ?_
            exact ⟨_, rfl, Fs8, (by rw [khi10_0]; first | assumption | (((try simp only [vp_in_iff, Int32.lt_iff_toInt_lt, Int32.le_iff_toInt_le, ← Int32.toInt_inj, Int32.reduceToInt, n_1, n_2, n_8, Int32.toNatClampNeg, Int64.lt_iff_toInt_lt, Int64.le_iff_toInt_le, ← Int64.toInt_inj, Int64.reduceToInt, Int32.toInt_toInt64, lg_cmp_ge, lg_cmp_le, lg_cmp_gt, lg_cmp_lt, lg_cmp_eq, Bool.false_eq_true, Bool.true_eq_false, reduceCtorEq, false_iff, true_iff, iff_true, iff_false, and_true, true_and, and_false, false_and, reduceIte, ite_true, ite_false, eq_self] at *)) <;> omega)), (by rw [khi10_1]; first | assumption | (((try simp only [vp_in_iff, Int32.lt_iff_toInt_lt, Int32.le_iff_toInt_le, ← Int32.toInt_inj, Int32.reduceToInt, n_1, n_2, n_8, Int32.toNatClampNeg, Int64.lt_iff_toInt_lt, Int64.le_iff_toInt_le, ← Int64.toInt_inj, Int64.reduceToInt, Int32.toInt_toInt64, lg_cmp_ge, lg_cmp_le, lg_cmp_gt, lg_cmp_lt, lg_cmp_eq, Bool.false_eq_true, Bool.true_eq_false, reduceCtorEq, false_iff, true_iff, iff_true, iff_false, and_true, true_and, and_false, false_and, reduceIte, ite_true, ite_false, eq_self] at *)) <;> omega)), trivial⟩
          · refine wa_aload_n (i := 0) rfl rfl ?_
            refine wa_Vi (d9 := d - 1) [] [] (sp_X7_isLatestFalse G (d := d - 1) (by omega) s8 ) (rfl) rfl rfl (zr (by omega)) mk_X7_isLatestFalse ly_75 ml_7_75 (Nat.le_of_ble_eq_true rfl) (fun x15 s14 hs14 => ?_)
            obtain ⟨bx15, ex15, zs14, -⟩ := pB hs14
            subst ex15
            subst zs14
            refine wa_if_eq o_X7_check_103 (by decide) (fun h16 => ?_) (fun h16 => ?_)
            · replace h16 := bI_f (b := bx15) (rfl) h16
              refine wa_iconst (v := 0) (by decide) ?_
              refine wa_ireturn rfl rfl ?_
              exact ⟨_, rfl, Fs8, (by rw [khi10_0]; first | assumption | (((try simp only [vp_in_iff, Int32.lt_iff_toInt_lt, Int32.le_iff_toInt_le, ← Int32.toInt_inj, Int32.reduceToInt, n_1, n_2, n_8, Int32.toNatClampNeg, Int64.lt_iff_toInt_lt, Int64.le_iff_toInt_le, ← Int64.toInt_inj, Int64.reduceToInt, Int32.toInt_toInt64, lg_cmp_ge, lg_cmp_le, lg_cmp_gt, lg_cmp_lt, lg_cmp_eq, Bool.false_eq_true, Bool.true_eq_false, reduceCtorEq, false_iff, true_iff, iff_true, iff_false, and_true, true_and, and_false, false_and, reduceIte, ite_true, ite_false, eq_self] at *)) <;> omega)), (by rw [khi10_1]; first | assumption | (((try simp only [vp_in_iff, Int32.lt_iff_toInt_lt, Int32.le_iff_toInt_le, ← Int32.toInt_inj, Int32.reduceToInt, n_1, n_2, n_8, Int32.toNatClampNeg, Int64.lt_iff_toInt_lt, Int64.le_iff_toInt_le, ← Int64.toInt_inj, Int64.reduceToInt, Int32.toInt_toInt64, lg_cmp_ge, lg_cmp_le, lg_cmp_gt, lg_cmp_lt, lg_cmp_eq, Bool.false_eq_true, Bool.true_eq_false, reduceCtorEq, false_iff, true_iff, iff_true, iff_false, and_true, true_and, and_false, false_and, reduceIte, ite_true, ite_false, eq_self] at *)) <;> omega)), trivial⟩
            · replace h16 := bI_t (b := bx15) (rfl) h16
              refine wa_iconst (v := 1) (by decide) ?_
              refine wa_goto o_X7_check_104 (by decide) ?_
              refine wa_ireturn rfl rfl ?_
              exact ⟨_, rfl, Fs8, (by rw [khi10_0]; first | assumption | (((try simp only [vp_in_iff, Int32.lt_iff_toInt_lt, Int32.le_iff_toInt_le, ← Int32.toInt_inj, Int32.reduceToInt, n_1, n_2, n_8, Int32.toNatClampNeg, Int64.lt_iff_toInt_lt, Int64.le_iff_toInt_le, ← Int64.toInt_inj, Int64.reduceToInt, Int32.toInt_toInt64, lg_cmp_ge, lg_cmp_le, lg_cmp_gt, lg_cmp_lt, lg_cmp_eq, Bool.false_eq_true, Bool.true_eq_false, reduceCtorEq, false_iff, true_iff, iff_true, iff_false, and_true, true_and, and_false, false_and, reduceIte, ite_true, ite_false, eq_self] at *)) <;> omega)), (by rw [khi10_1]; first | assumption | (((try simp only [vp_in_iff, Int32.lt_iff_toInt_lt, Int32.le_iff_toInt_le, ← Int32.toInt_inj, Int32.reduceToInt, n_1, n_2, n_8, Int32.toNatClampNeg, Int64.lt_iff_toInt_lt, Int64.le_iff_toInt_le, ← Int64.toInt_inj, Int64.reduceToInt, Int32.toInt_toInt64, lg_cmp_ge, lg_cmp_le, lg_cmp_gt, lg_cmp_lt, lg_cmp_eq, Bool.false_eq_true, Bool.true_eq_false, reduceCtorEq, false_iff, true_iff, iff_true, iff_false, and_true, true_and, and_false, false_and, reduceIte, ite_true, ite_false, eq_self] at *)) <;> omega)), trivial⟩
        · refine wa_iconst (v := (-1)) (by decide) ?_
          refine wa_ireturn rfl rfl ?_
          exact ⟨_, rfl, Fs8, (by rw [khi10_0]; first | assumption | (((try simp only [vp_in_iff, Int32.lt_iff_toInt_lt, Int32.le_iff_toInt_le, ← Int32.toInt_inj, Int32.reduceToInt, n_1, n_2, n_8, Int32.toNatClampNeg, Int64.lt_iff_toInt_lt, Int64.le_iff_toInt_le, ← Int64.toInt_inj, Int64.reduceToInt, Int32.toInt_toInt64, lg_cmp_ge, lg_cmp_le, lg_cmp_gt, lg_cmp_lt, lg_cmp_eq, Bool.false_eq_true, Bool.true_eq_false, reduceCtorEq, false_iff, true_iff, iff_true, iff_false, and_true, true_and, and_false, false_and, reduceIte, ite_true, ite_false, eq_self] at *)) <;> omega)), (by rw [khi10_1]; first | assumption | (((try simp only [vp_in_iff, Int32.lt_iff_toInt_lt, Int32.le_iff_toInt_le, ← Int32.toInt_inj, Int32.reduceToInt, n_1, n_2, n_8, Int32.toNatClampNeg, Int64.lt_iff_toInt_lt, Int64.le_iff_toInt_le, ← Int64.toInt_inj, Int64.reduceToInt, Int32.toInt_toInt64, lg_cmp_ge, lg_cmp_le, lg_cmp_gt, lg_cmp_lt, lg_cmp_eq, Bool.false_eq_true, Bool.true_eq_false, reduceCtorEq, false_iff, true_iff, iff_true, iff_false, and_true, true_and, and_false, false_and, reduceIte, ite_true, ite_false, eq_self] at *)) <;> omega)), trivial⟩
      · have mh11 := nle_mx h11
        refine wa_aload_n (i := 0) rfl rfl ?_
        refine wa_geti ck_7 fl_7_62 ly_75 ?_
        refine wa_if_ne o_X7_check_76 (by decide) (fun h17 => ?_) (fun h17 => ?_)
        · refine wa_aload_n (i := 0) rfl rfl ?_
          refine wa_geti ck_7 fl_7_62 ly_75 ?_
          refine wa_if_eq o_X7_check_85 (by decide) (fun h18 => ?_) (fun h18 => ?_)
          · refine wa_aload_n (i := 0) rfl rfl ?_
            refine wa_geti ck_7 fl_7_56 ly_75 ?_
            refine wa_if_ne o_X7_check_103 (by decide) (fun h19 => ?_) (fun h19 => ?_)
            · refine wa_iconst (v := 0) (by decide) ?_
              refine wa_ireturn rfl rfl ?_
              exact ⟨_, rfl, Fs8, (by rw [khi10_0]; first | assumption | (((try simp only [vp_in_iff, Int32.lt_iff_toInt_lt, Int32.le_iff_toInt_le, ← Int32.toInt_inj, Int32.reduceToInt, n_1, n_2, n_8, Int32.toNatClampNeg, Int64.lt_iff_toInt_lt, Int64.le_iff_toInt_le, ← Int64.toInt_inj, Int64.reduceToInt, Int32.toInt_toInt64, lg_cmp_ge, lg_cmp_le, lg_cmp_gt, lg_cmp_lt, lg_cmp_eq, Bool.false_eq_true, Bool.true_eq_false, reduceCtorEq, false_iff, true_iff, iff_true, iff_false, and_true, true_and, and_false, false_and, reduceIte, ite_true, ite_false, eq_self] at *)) <;> omega)), (by rw [khi10_1]; first | assumption | (((try simp only [vp_in_iff, Int32.lt_iff_toInt_lt, Int32.le_iff_toInt_le, ← Int32.toInt_inj, Int32.reduceToInt, n_1, n_2, n_8, Int32.toNatClampNeg, Int64.lt_iff_toInt_lt, Int64.le_iff_toInt_le, ← Int64.toInt_inj, Int64.reduceToInt, Int32.toInt_toInt64, lg_cmp_ge, lg_cmp_le, lg_cmp_gt, lg_cmp_lt, lg_cmp_eq, Bool.false_eq_true, Bool.true_eq_false, reduceCtorEq, false_iff, true_iff, iff_true, iff_false, and_true, true_and, and_false, false_and, reduceIte, ite_true, ite_false, eq_self] at *)) <;> omega)), trivial⟩
            · refine wa_aload_n (i := 0) rfl rfl ?_
              refine wa_Vi (d9 := d - 1) [] [] (sp_X7_isLatestFalse G (d := d - 1) (by omega) s8 ) (rfl) rfl rfl (zr (by omega)) mk_X7_isLatestFalse ly_75 ml_7_75 (Nat.le_of_ble_eq_true rfl) (fun x21 s20 hs20 => ?_)
              obtain ⟨bx21, ex21, zs20, -⟩ := pB hs20
              subst ex21
              subst zs20
              refine wa_if_eq o_X7_check_103 (by decide) (fun h22 => ?_) (fun h22 => ?_)
              · replace h22 := bI_f (b := bx21) (rfl) h22
                refine wa_iconst (v := 0) (by decide) ?_
                refine wa_ireturn rfl rfl ?_
                exact ⟨_, rfl, Fs8, (by rw [khi10_0]; first | assumption | (((try simp only [vp_in_iff, Int32.lt_iff_toInt_lt, Int32.le_iff_toInt_le, ← Int32.toInt_inj, Int32.reduceToInt, n_1, n_2, n_8, Int32.toNatClampNeg, Int64.lt_iff_toInt_lt, Int64.le_iff_toInt_le, ← Int64.toInt_inj, Int64.reduceToInt, Int32.toInt_toInt64, lg_cmp_ge, lg_cmp_le, lg_cmp_gt, lg_cmp_lt, lg_cmp_eq, Bool.false_eq_true, Bool.true_eq_false, reduceCtorEq, false_iff, true_iff, iff_true, iff_false, and_true, true_and, and_false, false_and, reduceIte, ite_true, ite_false, eq_self] at *)) <;> omega)), (by rw [khi10_1]; first | assumption | (((try simp only [vp_in_iff, Int32.lt_iff_toInt_lt, Int32.le_iff_toInt_le, ← Int32.toInt_inj, Int32.reduceToInt, n_1, n_2, n_8, Int32.toNatClampNeg, Int64.lt_iff_toInt_lt, Int64.le_iff_toInt_le, ← Int64.toInt_inj, Int64.reduceToInt, Int32.toInt_toInt64, lg_cmp_ge, lg_cmp_le, lg_cmp_gt, lg_cmp_lt, lg_cmp_eq, Bool.false_eq_true, Bool.true_eq_false, reduceCtorEq, false_iff, true_iff, iff_true, iff_false, and_true, true_and, and_false, false_and, reduceIte, ite_true, ite_false, eq_self] at *)) <;> omega)), trivial⟩
              · replace h22 := bI_t (b := bx21) (rfl) h22
                refine wa_iconst (v := 1) (by decide) ?_
                refine wa_goto o_X7_check_104 (by decide) ?_
                refine wa_ireturn rfl rfl ?_
                exact ⟨_, rfl, Fs8, (by rw [khi10_0]; first | assumption | (((try simp only [vp_in_iff, Int32.lt_iff_toInt_lt, Int32.le_iff_toInt_le, ← Int32.toInt_inj, Int32.reduceToInt, n_1, n_2, n_8, Int32.toNatClampNeg, Int64.lt_iff_toInt_lt, Int64.le_iff_toInt_le, ← Int64.toInt_inj, Int64.reduceToInt, Int32.toInt_toInt64, lg_cmp_ge, lg_cmp_le, lg_cmp_gt, lg_cmp_lt, lg_cmp_eq, Bool.false_eq_true, Bool.true_eq_false, reduceCtorEq, false_iff, true_iff, iff_true, iff_false, and_true, true_and, and_false, false_and, reduceIte, ite_true, ite_false, eq_self] at *)) <;> omega)), (by rw [khi10_1]; first | assumption | (((try simp only [vp_in_iff, Int32.lt_iff_toInt_lt, Int32.le_iff_toInt_le, ← Int32.toInt_inj, Int32.reduceToInt, n_1, n_2, n_8, Int32.toNatClampNeg, Int64.lt_iff_toInt_lt, Int64.le_iff_toInt_le, ← Int64.toInt_inj, Int64.reduceToInt, Int32.toInt_toInt64, lg_cmp_ge, lg_cmp_le, lg_cmp_gt, lg_cmp_lt, lg_cmp_eq, Bool.false_eq_true, Bool.true_eq_false, reduceCtorEq, false_iff, true_iff, iff_true, iff_false, and_true, true_and, and_false, false_and, reduceIte, ite_true, ite_false, eq_self] at *)) <;> omega)), trivial⟩
          · refine wa_iconst (v := (-1)) (by decide) ?_
            refine wa_ireturn rfl rfl ?_
            exact ⟨_, rfl, Fs8, (by rw [khi10_0]; first | assumption | (((try simp only [vp_in_iff, Int32.lt_iff_toInt_lt, Int32.le_iff_toInt_le, ← Int32.toInt_inj, Int32.reduceToInt, n_1, n_2, n_8, Int32.toNatClampNeg, Int64.lt_iff_toInt_lt, Int64.le_iff_toInt_le, ← Int64.toInt_inj, Int64.reduceToInt, Int32.toInt_toInt64, lg_cmp_ge, lg_cmp_le, lg_cmp_gt, lg_cmp_lt, lg_cmp_eq, Bool.false_eq_true, Bool.true_eq_false, reduceCtorEq, false_iff, true_iff, iff_true, iff_false, and_true, true_and, and_false, false_and, reduceIte, ite_true, ite_false, eq_self] at *)) <;> omega)), (by rw [khi10_1]; first | assumption | (((try simp only [vp_in_iff, Int32.lt_iff_toInt_lt, Int32.le_iff_toInt_le, ← Int32.toInt_inj, Int32.reduceToInt, n_1, n_2, n_8, Int32.toNatClampNeg, Int64.lt_iff_toInt_lt, Int64.le_iff_toInt_le, ← Int64.toInt_inj, Int64.reduceToInt, Int32.toInt_toInt64, lg_cmp_ge, lg_cmp_le, lg_cmp_gt, lg_cmp_lt, lg_cmp_eq, Bool.false_eq_true, Bool.true_eq_false, reduceCtorEq, false_iff, true_iff, iff_true, iff_false, and_true, true_and, and_false, false_and, reduceIte, ite_true, ite_false, eq_self] at *)) <;> omega)), trivial⟩
        · refine wa_aload_n (i := 0) rfl rfl ?_
          refine wa_getr ck_7 fl_7_38 ly_75 rf_75_0 ?_
          refine wa_aload_n (i := 0) rfl rfl ?_
          refine wa_geti ck_7 fl_7_59 ly_75 ?_
          refine wa_Vi (d9 := d - 1) [.int _] [] (sp_X3_kindAt G (d := d - 1) (by omega) s8 _ (by rw [khi10_2]; first | assumption | exact Or.inl rfl | exact Or.inr rfl | (((try simp only [vp_in_iff, Int32.lt_iff_toInt_lt, Int32.le_iff_toInt_le, ← Int32.toInt_inj, Int32.reduceToInt, n_1, n_2, n_8, Int32.toNatClampNeg, Int64.lt_iff_toInt_lt, Int64.le_iff_toInt_le, ← Int64.toInt_inj, Int64.reduceToInt, Int32.toInt_toInt64, lg_cmp_ge, lg_cmp_le, lg_cmp_gt, lg_cmp_lt, lg_cmp_eq, Bool.false_eq_true, Bool.true_eq_false, reduceCtorEq, false_iff, true_iff, iff_true, iff_false, and_true, true_and, and_false, false_and, reduceIte, ite_true, ite_false, eq_self] at *)) <;> omega))) (rfl) rfl rfl (zr (by omega)) mk_X3_kindAt ly_18 ml_7_68 (Nat.le_of_ble_eq_true rfl) (fun x24 s23 hs23 => ?_)
          obtain ⟨zs23, -⟩ := pI hs23
          subst zs23
          refine wa_if_eq o_X7_check_76 (by decide) (fun h25 => ?_) (fun h25 => ?_)
          · refine wa_aload_n (i := 0) rfl rfl ?_
            refine wa_geti ck_7 fl_7_62 ly_75 ?_
            refine wa_if_eq o_X7_check_85 (by decide) (fun h26 => ?_) (fun h26 => ?_)
            · refine wa_aload_n (i := 0) rfl rfl ?_
              refine wa_geti ck_7 fl_7_56 ly_75 ?_
              refine wa_if_ne o_X7_check_103 (by decide) (fun h27 => ?_) (fun h27 => ?_)
              · refine wa_iconst (v := 0) (by decide) ?_
                refine wa_ireturn rfl rfl ?_
                exact ⟨_, rfl, Fs8, (by rw [khi10_0]; first | assumption | (((try simp only [vp_in_iff, Int32.lt_iff_toInt_lt, Int32.le_iff_toInt_le, ← Int32.toInt_inj, Int32.reduceToInt, n_1, n_2, n_8, Int32.toNatClampNeg, Int64.lt_iff_toInt_lt, Int64.le_iff_toInt_le, ← Int64.toInt_inj, Int64.reduceToInt, Int32.toInt_toInt64, lg_cmp_ge, lg_cmp_le, lg_cmp_gt, lg_cmp_lt, lg_cmp_eq, Bool.false_eq_true, Bool.true_eq_false, reduceCtorEq, false_iff, true_iff, iff_true, iff_false, and_true, true_and, and_false, false_and, reduceIte, ite_true, ite_false, eq_self] at *)) <;> omega)), (by rw [khi10_1]; first | assumption | (((try simp only [vp_in_iff, Int32.lt_iff_toInt_lt, Int32.le_iff_toInt_le, ← Int32.toInt_inj, Int32.reduceToInt, n_1, n_2, n_8, Int32.toNatClampNeg, Int64.lt_iff_toInt_lt, Int64.le_iff_toInt_le, ← Int64.toInt_inj, Int64.reduceToInt, Int32.toInt_toInt64, lg_cmp_ge, lg_cmp_le, lg_cmp_gt, lg_cmp_lt, lg_cmp_eq, Bool.false_eq_true, Bool.true_eq_false, reduceCtorEq, false_iff, true_iff, iff_true, iff_false, and_true, true_and, and_false, false_and, reduceIte, ite_true, ite_false, eq_self] at *)) <;> omega)), trivial⟩
              · refine wa_aload_n (i := 0) rfl rfl ?_
                refine wa_Vi (d9 := d - 1) [] [] (sp_X7_isLatestFalse G (d := d - 1) (by omega) s8 ) (rfl) rfl rfl (zr (by omega)) mk_X7_isLatestFalse ly_75 ml_7_75 (Nat.le_of_ble_eq_true rfl) (fun x29 s28 hs28 => ?_)
                obtain ⟨bx29, ex29, zs28, -⟩ := pB hs28
                subst ex29
                subst zs28
                refine wa_if_eq o_X7_check_103 (by decide) (fun h30 => ?_) (fun h30 => ?_)
                · replace h30 := bI_f (b := bx29) (rfl) h30
                  refine wa_iconst (v := 0) (by decide) ?_
                  refine wa_ireturn rfl rfl ?_
                  exact ⟨_, rfl, Fs8, (by rw [khi10_0]; first | assumption | (((try simp only [vp_in_iff, Int32.lt_iff_toInt_lt, Int32.le_iff_toInt_le, ← Int32.toInt_inj, Int32.reduceToInt, n_1, n_2, n_8, Int32.toNatClampNeg, Int64.lt_iff_toInt_lt, Int64.le_iff_toInt_le, ← Int64.toInt_inj, Int64.reduceToInt, Int32.toInt_toInt64, lg_cmp_ge, lg_cmp_le, lg_cmp_gt, lg_cmp_lt, lg_cmp_eq, Bool.false_eq_true, Bool.true_eq_false, reduceCtorEq, false_iff, true_iff, iff_true, iff_false, and_true, true_and, and_false, false_and, reduceIte, ite_true, ite_false, eq_self] at *)) <;> omega)), (by rw [khi10_1]; first | assumption | (((try simp only [vp_in_iff, Int32.lt_iff_toInt_lt, Int32.le_iff_toInt_le, ← Int32.toInt_inj, Int32.reduceToInt, n_1, n_2, n_8, Int32.toNatClampNeg, Int64.lt_iff_toInt_lt, Int64.le_iff_toInt_le, ← Int64.toInt_inj, Int64.reduceToInt, Int32.toInt_toInt64, lg_cmp_ge, lg_cmp_le, lg_cmp_gt, lg_cmp_lt, lg_cmp_eq, Bool.false_eq_true, Bool.true_eq_false, reduceCtorEq, false_iff, true_iff, iff_true, iff_false, and_true, true_and, and_false, false_and, reduceIte, ite_true, ite_false, eq_self] at *)) <;> omega)), trivial⟩
                · replace h30 := bI_t (b := bx29) (rfl) h30
                  refine wa_iconst (v := 1) (by decide) ?_
                  refine wa_goto o_X7_check_104 (by decide) ?_
                  refine wa_ireturn rfl rfl ?_
                  exact ⟨_, rfl, Fs8, (by rw [khi10_0]; first | assumption | (((try simp only [vp_in_iff, Int32.lt_iff_toInt_lt, Int32.le_iff_toInt_le, ← Int32.toInt_inj, Int32.reduceToInt, n_1, n_2, n_8, Int32.toNatClampNeg, Int64.lt_iff_toInt_lt, Int64.le_iff_toInt_le, ← Int64.toInt_inj, Int64.reduceToInt, Int32.toInt_toInt64, lg_cmp_ge, lg_cmp_le, lg_cmp_gt, lg_cmp_lt, lg_cmp_eq, Bool.false_eq_true, Bool.true_eq_false, reduceCtorEq, false_iff, true_iff, iff_true, iff_false, and_true, true_and, and_false, false_and, reduceIte, ite_true, ite_false, eq_self] at *)) <;> omega)), (by rw [khi10_1]; first | assumption | (((try simp only [vp_in_iff, Int32.lt_iff_toInt_lt, Int32.le_iff_toInt_le, ← Int32.toInt_inj, Int32.reduceToInt, n_1, n_2, n_8, Int32.toNatClampNeg, Int64.lt_iff_toInt_lt, Int64.le_iff_toInt_le, ← Int64.toInt_inj, Int64.reduceToInt, Int32.toInt_toInt64, lg_cmp_ge, lg_cmp_le, lg_cmp_gt, lg_cmp_lt, lg_cmp_eq, Bool.false_eq_true, Bool.true_eq_false, reduceCtorEq, false_iff, true_iff, iff_true, iff_false, and_true, true_and, and_false, false_and, reduceIte, ite_true, ite_false, eq_self] at *)) <;> omega)), trivial⟩
            · refine wa_iconst (v := (-1)) (by decide) ?_
              refine wa_ireturn rfl rfl ?_
              exact ⟨_, rfl, Fs8, (by rw [khi10_0]; first | assumption | (((try simp only [vp_in_iff, Int32.lt_iff_toInt_lt, Int32.le_iff_toInt_le, ← Int32.toInt_inj, Int32.reduceToInt, n_1, n_2, n_8, Int32.toNatClampNeg, Int64.lt_iff_toInt_lt, Int64.le_iff_toInt_le, ← Int64.toInt_inj, Int64.reduceToInt, Int32.toInt_toInt64, lg_cmp_ge, lg_cmp_le, lg_cmp_gt, lg_cmp_lt, lg_cmp_eq, Bool.false_eq_true, Bool.true_eq_false, reduceCtorEq, false_iff, true_iff, iff_true, iff_false, and_true, true_and, and_false, false_and, reduceIte, ite_true, ite_false, eq_self] at *)) <;> omega)), (by rw [khi10_1]; first | assumption | (((try simp only [vp_in_iff, Int32.lt_iff_toInt_lt, Int32.le_iff_toInt_le, ← Int32.toInt_inj, Int32.reduceToInt, n_1, n_2, n_8, Int32.toNatClampNeg, Int64.lt_iff_toInt_lt, Int64.le_iff_toInt_le, ← Int64.toInt_inj, Int64.reduceToInt, Int32.toInt_toInt64, lg_cmp_ge, lg_cmp_le, lg_cmp_gt, lg_cmp_lt, lg_cmp_eq, Bool.false_eq_true, Bool.true_eq_false, reduceCtorEq, false_iff, true_iff, iff_true, iff_false, and_true, true_and, and_false, false_and, reduceIte, ite_true, ite_false, eq_self] at *)) <;> omega)), trivial⟩
          · refine wa_aload_n (i := 0) rfl rfl ?_
            refine wa_Vv (d9 := d - 1) [] [] (sp_X7_readLine G (d := d - 1) (by omega) s8  (by rw [khi10_2]; first | assumption | exact Or.inl rfl | exact Or.inr rfl | (((try simp only [vp_in_iff, Int32.lt_iff_toInt_lt, Int32.le_iff_toInt_le, ← Int32.toInt_inj, Int32.reduceToInt, n_1, n_2, n_8, Int32.toNatClampNeg, Int64.lt_iff_toInt_lt, Int64.le_iff_toInt_le, ← Int64.toInt_inj, Int64.reduceToInt, Int32.toInt_toInt64, lg_cmp_ge, lg_cmp_le, lg_cmp_gt, lg_cmp_lt, lg_cmp_eq, Bool.false_eq_true, Bool.true_eq_false, reduceCtorEq, false_iff, true_iff, iff_true, iff_false, and_true, true_and, and_false, false_and, reduceIte, ite_true, ite_false, eq_self] at *)) <;> omega))) (rfl) rfl rfl (zr (by omega)) mk_X7_readLine ly_75 ml_7_72 (Nat.le_of_ble_eq_true rfl) (fun s31 hs31 => ?_)
            obtain ⟨fs31, -⟩ := hs31
            have Fs31 := Sm.tr Fs8 (Sm.wd fs31 (lo' := 18) (hi' := 84) (by decide) (by decide))
            refine wa_iinc (v := (1)) (lv' := fun y33 => [(3, .int y33), (0, .ref 75)]) (by decide) rfl (by decide) (fun _ => rfl) (fun y33 hy33 => ?_)
            have ty33 := i_addT hy33.symm
            clear hy33
            refine wa_goto o_X7_check_38 (by decide) ?_
            refine wa_pick [1, 0] rfl ?_
            exact ih9 _ (by ((try simp only [vp_in_iff, Int32.lt_iff_toInt_lt, Int32.le_iff_toInt_le, ← Int32.toInt_inj, Int32.reduceToInt, n_1, n_2, n_8, Int32.toNatClampNeg, Int64.lt_iff_toInt_lt, Int64.le_iff_toInt_le, ← Int64.toInt_inj, Int64.reduceToInt, Int32.toInt_toInt64, lg_cmp_ge, lg_cmp_le, lg_cmp_gt, lg_cmp_lt, lg_cmp_eq, Bool.false_eq_true, Bool.true_eq_false, reduceCtorEq, false_iff, true_iff, iff_true, iff_false, and_true, true_and, and_false, false_and, reduceIte, ite_true, ite_false, eq_self] at *)) <;> omega) _ _ ⟨Fs31, ((Sm.gi fs31 13 (Or.inl (by decide))).trans (khi10_0)), ((Sm.gi fs31 15 (Or.inl (by decide))).trans (khi10_1)), ((Sm.gi fs31 5 (Or.inl (by decide))).trans (khi10_2)), (by ((try simp only [vp_in_iff, Int32.lt_iff_toInt_lt, Int32.le_iff_toInt_le, ← Int32.toInt_inj, Int32.reduceToInt, n_1, n_2, n_8, Int32.toNatClampNeg, Int64.lt_iff_toInt_lt, Int64.le_iff_toInt_le, ← Int64.toInt_inj, Int64.reduceToInt, Int32.toInt_toInt64, lg_cmp_ge, lg_cmp_le, lg_cmp_gt, lg_cmp_lt, lg_cmp_eq, Bool.false_eq_true, Bool.true_eq_false, reduceCtorEq, false_iff, true_iff, iff_true, iff_false, and_true, true_and, and_false, false_and, reduceIte, ite_true, ite_false, eq_self] at *)) <;> omega), trivial⟩ rfl
  exact hi10 _ _ _ ⟨Fs7, ((nxq_gi_si hs7 (by decide)).trans ((nxq_gi_si hs6 (by decide)).trans ((nxq_gi_si hs5 (by decide)).trans ((nxq_gi_si hs4 (by decide)).trans ((nxq_gi_si hs3 (by decide)).trans (Sm.gi fs1 13 (Or.inr (by decide)))))))), ((nxq_gi_si hs7 (by decide)).trans ((nxq_gi_si hs6 (by decide)).trans ((nxq_gi_si hs5 (by decide)).trans ((nxq_gi_si hs4 (by decide)).trans ((nxq_gi_si hs3 (by decide)).trans (Sm.gi fs1 15 (Or.inr (by decide)))))))), ((nxq_gi_si hs7 (by decide)).trans ((nxq_gi_si hs6 (by decide)).trans ((nxq_gi_si hs5 (by decide)).trans ((nxq_gi_si hs4 (by decide)).trans (nxq_gi_si hs3 (by decide)))))), (by ((try simp only [vp_in_iff, Int32.lt_iff_toInt_lt, Int32.le_iff_toInt_le, ← Int32.toInt_inj, Int32.reduceToInt, n_1, n_2, n_8, Int32.toNatClampNeg, Int64.lt_iff_toInt_lt, Int64.le_iff_toInt_le, ← Int64.toInt_inj, Int64.reduceToInt, Int32.toInt_toInt64, lg_cmp_ge, lg_cmp_le, lg_cmp_gt, lg_cmp_lt, lg_cmp_eq, Bool.false_eq_true, Bool.true_eq_false, reduceCtorEq, false_iff, true_iff, iff_true, iff_false, and_true, true_and, and_false, false_and, reduceIte, ite_true, ite_false, eq_self] at *)) <;> omega), trivial⟩ rfl
set_option maxHeartbeats 4000000 in
theorem sp_X8_next (G : kG9) {d : Nat} (hd : 0 ≤ d) (σ : St) : Ct G M_X8_next d [.ref 30] σ (fun r σ' => Sm 30 31 σ σ' ∧ True) := by
  refine wa_start (by decide) rfl (Nat.le_of_ble_eq_true rfl) (lv := [(0, .ref 30)]) rfl o_X8_next_0 rfl ?_
  refine wa_aload_n (i := 0) rfl rfl ?_
  refine wa_aload_n (i := 0) rfl rfl ?_
  refine wa_geti ck_8 fl_8_79 ly_30 ?_
  refine wa_aload_n (i := 0) rfl rfl ?_
  refine wa_getr ck_8 fl_8_9 ly_30 rf_30_0 ?_
  refine wa_geti ck_3 fl_8_126 ly_18 ?_
  refine wa_icmp_ge o_X8_next_24 (by decide) (fun h1 => ?_) (fun h1 => ?_)
  · refine wa_aload_n (i := 0) rfl rfl ?_
    refine wa_geti ck_8 fl_8_79 ly_30 ?_
    refine wa_puti ck_8 fl_8_79 ly_30 (fun s2 hs2 => ?_)
    have Fs2 : Sm 30 31 σ s2 := by rw [hs2]; exact Sm.si (Sm.rf 30 31 σ) _ _ (by decide) (by decide)
    refine wa_aload_n (i := 0) rfl rfl ?_
    refine wa_geti ck_8 fl_8_79 ly_30 ?_
    refine wa_rw (nxe_gi_si hs2) ?_
    refine wa_if_lt o_X8_next_80 (by decide) (fun h3 => ?_) (fun h3 => ?_)
    · refine wa_return (st := []) rfl rfl ?_
      exact ⟨Fs2, trivial⟩
    · refine wa_aload_n (i := 0) rfl rfl ?_
      refine wa_geti ck_8 fl_8_79 ly_30 ?_
      refine wa_rw (nxe_gi_si hs2) ?_
      refine wa_sipush (v := 2000) (by decide) ?_
      refine wa_icmp_gt o_X8_next_80 (by decide) (fun h4 => ?_) (fun h4 => ?_)
      · refine wa_return (st := []) rfl rfl ?_
        exact ⟨Fs2, trivial⟩
      · refine wa_aload_n (i := 0) rfl rfl ?_
        refine wa_aload_n (i := 0) rfl rfl ?_
        refine wa_getr ck_8 fl_8_9 ly_30 rf_30_0 ?_
        refine wa_getr ck_3 fl_8_129 ly_18 rf_18_1 ?_
        refine wa_aload_n (i := 0) rfl rfl ?_
        refine wa_geti ck_8 fl_8_79 ly_30 ?_
        refine wa_rw (nxe_gi_si hs2) ?_
        refine wa_iald ly_20 (by ((try simp only [vp_in_iff, Int32.lt_iff_toInt_lt, Int32.le_iff_toInt_le, ← Int32.toInt_inj, Int32.reduceToInt, n_1, n_2, n_8, Int32.toNatClampNeg, Int64.lt_iff_toInt_lt, Int64.le_iff_toInt_le, ← Int64.toInt_inj, Int64.reduceToInt, Int32.toInt_toInt64, lg_cmp_ge, lg_cmp_le, lg_cmp_gt, lg_cmp_lt, lg_cmp_eq, Bool.false_eq_true, Bool.true_eq_false, reduceCtorEq, false_iff, true_iff, iff_true, iff_false, and_true, true_and, and_false, false_and, reduceIte, ite_true, ite_false, eq_self] at *)) <;> omega) ?_
        refine wa_puti ck_8 fl_8_39 ly_30 (fun s5 hs5 => ?_)
        have Fs5 : Sm 30 31 σ s5 := by rw [hs5]; exact Sm.si Fs2 _ _ (by decide) (by decide)
        refine wa_aload_n (i := 0) rfl rfl ?_
        refine wa_aload_n (i := 0) rfl rfl ?_
        refine wa_getr ck_8 fl_8_9 ly_30 rf_30_0 ?_
        refine wa_getr ck_3 fl_8_133 ly_18 rf_18_2 ?_
        refine wa_aload_n (i := 0) rfl rfl ?_
        refine wa_geti ck_8 fl_8_79 ly_30 ?_
        refine wa_rw ((nxk_gi_si hs5 (by decide)).trans (nxe_gi_si hs2)) ?_
        refine wa_iald ly_21 (by ((try simp only [vp_in_iff, Int32.lt_iff_toInt_lt, Int32.le_iff_toInt_le, ← Int32.toInt_inj, Int32.reduceToInt, n_1, n_2, n_8, Int32.toNatClampNeg, Int64.lt_iff_toInt_lt, Int64.le_iff_toInt_le, ← Int64.toInt_inj, Int64.reduceToInt, Int32.toInt_toInt64, lg_cmp_ge, lg_cmp_le, lg_cmp_gt, lg_cmp_lt, lg_cmp_eq, Bool.false_eq_true, Bool.true_eq_false, reduceCtorEq, false_iff, true_iff, iff_true, iff_false, and_true, true_and, and_false, false_and, reduceIte, ite_true, ite_false, eq_self] at *)) <;> omega) ?_
        refine wa_puti ck_8 fl_8_136 ly_30 (fun s6 hs6 => ?_)
        have Fs6 : Sm 30 31 σ s6 := by rw [hs6]; exact Sm.si Fs5 _ _ (by decide) (by decide)
        refine wa_return (st := []) rfl rfl ?_
        exact ⟨Fs6, trivial⟩
  · have mh1 := nle_mx h1
    refine wa_aload_n (i := 0) rfl rfl ?_
    refine wa_geti ck_8 fl_8_79 ly_30 ?_
    refine wa_iconst (v := 1) (by decide) ?_
    refine wa_iadd ?_
    refine wa_top (fun v7 hv7 => ?_)
    have tv7 := i_addT hv7
    clear hv7
    refine wa_goto o_X8_next_28 (by decide) ?_
    refine wa_puti ck_8 fl_8_79 ly_30 (fun s8 hs8 => ?_)
    have Fs8 : Sm 30 31 σ s8 := by rw [hs8]; exact Sm.si (Sm.rf 30 31 σ) _ _ (by decide) (by decide)
    refine wa_aload_n (i := 0) rfl rfl ?_
    refine wa_geti ck_8 fl_8_79 ly_30 ?_
    refine wa_rw (nxe_gi_si hs8) ?_
    refine wa_if_lt o_X8_next_80 (by decide) (fun h9 => ?_) (fun h9 => ?_)
    · refine wa_return (st := []) rfl rfl ?_
      exact ⟨Fs8, trivial⟩
    · refine wa_aload_n (i := 0) rfl rfl ?_
      refine wa_geti ck_8 fl_8_79 ly_30 ?_
      refine wa_rw (nxe_gi_si hs8) ?_
      refine wa_sipush (v := 2000) (by decide) ?_
      refine wa_icmp_gt o_X8_next_80 (by decide) (fun h10 => ?_) (fun h10 => ?_)
      · refine wa_return (st := []) rfl rfl ?_
        exact ⟨Fs8, trivial⟩
      · refine wa_aload_n (i := 0) rfl rfl ?_
        refine wa_aload_n (i := 0) rfl rfl ?_
        refine wa_getr ck_8 fl_8_9 ly_30 rf_30_0 ?_
        refine wa_getr ck_3 fl_8_129 ly_18 rf_18_1 ?_
        refine wa_aload_n (i := 0) rfl rfl ?_
        refine wa_geti ck_8 fl_8_79 ly_30 ?_
        refine wa_rw (nxe_gi_si hs8) ?_
        refine wa_iald ly_20 (by ((try simp only [vp_in_iff, Int32.lt_iff_toInt_lt, Int32.le_iff_toInt_le, ← Int32.toInt_inj, Int32.reduceToInt, n_1, n_2, n_8, Int32.toNatClampNeg, Int64.lt_iff_toInt_lt, Int64.le_iff_toInt_le, ← Int64.toInt_inj, Int64.reduceToInt, Int32.toInt_toInt64, lg_cmp_ge, lg_cmp_le, lg_cmp_gt, lg_cmp_lt, lg_cmp_eq, Bool.false_eq_true, Bool.true_eq_false, reduceCtorEq, false_iff, true_iff, iff_true, iff_false, and_true, true_and, and_false, false_and, reduceIte, ite_true, ite_false, eq_self] at *)) <;> omega) ?_
        refine wa_puti ck_8 fl_8_39 ly_30 (fun s11 hs11 => ?_)
        have Fs11 : Sm 30 31 σ s11 := by rw [hs11]; exact Sm.si Fs8 _ _ (by decide) (by decide)
        refine wa_aload_n (i := 0) rfl rfl ?_
        refine wa_aload_n (i := 0) rfl rfl ?_
        refine wa_getr ck_8 fl_8_9 ly_30 rf_30_0 ?_
        refine wa_getr ck_3 fl_8_133 ly_18 rf_18_2 ?_
        refine wa_aload_n (i := 0) rfl rfl ?_
        refine wa_geti ck_8 fl_8_79 ly_30 ?_
        refine wa_rw ((nxk_gi_si hs11 (by decide)).trans (nxe_gi_si hs8)) ?_
        refine wa_iald ly_21 (by ((try simp only [vp_in_iff, Int32.lt_iff_toInt_lt, Int32.le_iff_toInt_le, ← Int32.toInt_inj, Int32.reduceToInt, n_1, n_2, n_8, Int32.toNatClampNeg, Int64.lt_iff_toInt_lt, Int64.le_iff_toInt_le, ← Int64.toInt_inj, Int64.reduceToInt, Int32.toInt_toInt64, lg_cmp_ge, lg_cmp_le, lg_cmp_gt, lg_cmp_lt, lg_cmp_eq, Bool.false_eq_true, Bool.true_eq_false, reduceCtorEq, false_iff, true_iff, iff_true, iff_false, and_true, true_and, and_false, false_and, reduceIte, ite_true, ite_false, eq_self] at *)) <;> omega) ?_
        refine wa_puti ck_8 fl_8_136 ly_30 (fun s12 hs12 => ?_)
        have Fs12 : Sm 30 31 σ s12 := by rw [hs12]; exact Sm.si Fs11 _ _ (by decide) (by decide)
        refine wa_return (st := []) rfl rfl ?_
        exact ⟨Fs12, trivial⟩
set_option maxHeartbeats 4000000 in
theorem sp_X8_begin_at_1 (G : kG9) {d : Nat} (hd : 6 ≤ d) (σ : St) (a1 : Int32) (a2 : Int32) : Ct G M_X8_begin d [.ref 30, .ref 1, .int a1, .int a2] σ (fun r σ' => Sm 18 31 σ σ' ∧ ((gi σ' 18 5).toInt ≤ 2000) ∧ True) := by
  refine wa_start (by decide) rfl (Nat.le_of_ble_eq_true rfl) (lv := [(0, .ref 30), (1, .ref 1), (2, .int a1), (3, .int a2)]) rfl o_X8_begin_0 rfl ?_
  have ua1 := Int32.toInt_lt a1
  have wa1 := Int32.le_toInt a1
  have ua2 := Int32.toInt_lt a2
  have wa2 := Int32.le_toInt a2
  refine wa_aload_n (i := 0) rfl rfl ?_
  refine wa_getr ck_8 fl_8_9 ly_30 rf_30_0 ?_
  refine wa_aload_n (i := 1) rfl rfl ?_
  refine wa_iload_n (i := 2) rfl rfl ?_
  refine wa_iload_n (i := 3) rfl rfl ?_
  refine wa_iconst (v := 0) (by decide) ?_
  refine wa_Vv (d9 := d - 1) [.ref 1, .int _, .int _, .int (bI false)] [] (sp_X3_scan_at_1 G (d := d - 1) (by omega) σ _ _ false) (rfl) rfl rfl (zr (by omega)) mk_X3_scan ly_18 ml_8_119 (Nat.le_of_ble_eq_true rfl) (fun s1 hs1 => ?_)
  obtain ⟨fs1, cx2_1, -⟩ := hs1
  have Fs1 := Sm.tr (Sm.rf 18 31 σ) (Sm.wd fs1 (lo' := 18) (hi' := 31) (by decide) (by decide))
  refine wa_aload_n (i := 0) rfl rfl ?_
  refine wa_iconst (v := 0) (by decide) ?_
  refine wa_puti ck_8 fl_8_62 ly_30 (fun s3 hs3 => ?_)
  have Fs3 : Sm 18 31 σ s3 := by rw [hs3]; exact Sm.si Fs1 _ _ (by decide) (by decide)
  refine wa_aload_n (i := 0) rfl rfl ?_
  refine wa_iconst (v := 0) (by decide) ?_
  refine wa_puti ck_8 fl_8_123 ly_30 (fun s4 hs4 => ?_)
  have Fs4 : Sm 18 31 σ s4 := by rw [hs4]; exact Sm.si Fs3 _ _ (by decide) (by decide)
  refine wa_aload_n (i := 0) rfl rfl ?_
  refine wa_iconst (v := 0) (by decide) ?_
  refine wa_putz false (rfl) ck_8 fl_8_101 ly_30 (fun s5 hs5 => ?_)
  have Fs5 : Sm 18 31 σ s5 := by rw [hs5]; exact Sm.sb Fs4 _ _ (by decide) (by decide)
  refine wa_aload_n (i := 0) rfl rfl ?_
  refine wa_iconst (v := (-1)) (by decide) ?_
  refine wa_puti ck_8 fl_8_79 ly_30 (fun s6 hs6 => ?_)
  have Fs6 : Sm 18 31 σ s6 := by rw [hs6]; exact Sm.si Fs5 _ _ (by decide) (by decide)
  refine wa_aload_n (i := 0) rfl rfl ?_
  refine wa_Vv (d9 := d - 1) [] [] (sp_X8_next G (d := d - 1) (by omega) s6 ) (rfl) rfl rfl (zr (by omega)) mk_X8_next ly_30 ml_8_98 (Nat.le_of_ble_eq_true rfl) (fun s7 hs7 => ?_)
  obtain ⟨fs7, -⟩ := hs7
  have Fs7 := Sm.tr Fs6 (Sm.wd fs7 (lo' := 18) (hi' := 31) (by decide) (by decide))
  refine wa_return (st := []) rfl rfl ?_
  exact ⟨Fs7, (by rw [(Sm.gi fs7 5 (Or.inl (by decide))).trans ((nxq_gi_si hs6 (by decide)).trans ((nx_gi_sb hs5).trans ((nxq_gi_si hs4 (by decide)).trans (nxq_gi_si hs3 (by decide)))))]; first | assumption | (((try simp only [vp_in_iff, Int32.lt_iff_toInt_lt, Int32.le_iff_toInt_le, ← Int32.toInt_inj, Int32.reduceToInt, n_1, n_2, n_8, Int32.toNatClampNeg, Int64.lt_iff_toInt_lt, Int64.le_iff_toInt_le, ← Int64.toInt_inj, Int64.reduceToInt, Int32.toInt_toInt64, lg_cmp_ge, lg_cmp_le, lg_cmp_gt, lg_cmp_lt, lg_cmp_eq, Bool.false_eq_true, Bool.true_eq_false, reduceCtorEq, false_iff, true_iff, iff_true, iff_false, and_true, true_and, and_false, false_and, reduceIte, ite_true, ite_false, eq_self] at *)) <;> omega)), trivial⟩
set_option maxHeartbeats 4000000 in
theorem sp_X8_fail (G : kG9) {d : Nat} (hd : 0 ≤ d) (σ : St) (a0 : Int32) : Ct G M_X8_fail d [.ref 30, .int a0] σ (fun r σ' => Sm 30 31 σ σ' ∧ True) := by
  refine wa_start (by decide) rfl (Nat.le_of_ble_eq_true rfl) (lv := [(0, .ref 30), (1, .int a0)]) rfl o_X8_fail_0 rfl ?_
  have ua0 := Int32.toInt_lt a0
  have wa0 := Int32.le_toInt a0
  refine wa_aload_n (i := 0) rfl rfl ?_
  refine wa_geti ck_8 fl_8_62 ly_30 ?_
  refine wa_if_ne o_X8_fail_32 (by decide) (fun h1 => ?_) (fun h1 => ?_)
  · refine wa_aload_n (i := 0) rfl rfl ?_
    refine wa_bipush (v := 44) (by decide) ?_
    refine wa_puti ck_8 fl_8_39 ly_30 (fun s2 hs2 => ?_)
    have Fs2 : Sm 30 31 σ s2 := by rw [hs2]; exact Sm.si (Sm.rf 30 31 σ) _ _ (by decide) (by decide)
    refine wa_return (st := []) rfl rfl ?_
    exact ⟨Fs2, trivial⟩
  · refine wa_aload_n (i := 0) rfl rfl ?_
    refine wa_aload_n (i := 0) rfl rfl ?_
    refine wa_geti ck_8 fl_8_39 ly_30 ?_
    refine wa_iconst (v := 3) (by decide) ?_
    refine wa_icmp_ne o_X8_fail_20 (by decide) (fun h3 => ?_) (fun h3 => ?_)
    · refine wa_iload_n (i := 1) rfl rfl ?_
      refine wa_puti ck_8 fl_8_62 ly_30 (fun s4 hs4 => ?_)
      have Fs4 : Sm 30 31 σ s4 := by rw [hs4]; exact Sm.si (Sm.rf 30 31 σ) _ _ (by decide) (by decide)
      refine wa_aload_n (i := 0) rfl rfl ?_
      refine wa_aload_n (i := 0) rfl rfl ?_
      refine wa_geti ck_8 fl_8_136 ly_30 ?_
      refine wa_rw (nxk_gi_si hs4 (by decide)) ?_
      refine wa_puti ck_8 fl_8_123 ly_30 (fun s5 hs5 => ?_)
      have Fs5 : Sm 30 31 σ s5 := by rw [hs5]; exact Sm.si Fs4 _ _ (by decide) (by decide)
      refine wa_aload_n (i := 0) rfl rfl ?_
      refine wa_bipush (v := 44) (by decide) ?_
      refine wa_puti ck_8 fl_8_39 ly_30 (fun s6 hs6 => ?_)
      have Fs6 : Sm 30 31 σ s6 := by rw [hs6]; exact Sm.si Fs5 _ _ (by decide) (by decide)
      refine wa_return (st := []) rfl rfl ?_
      exact ⟨Fs6, trivial⟩
    · refine wa_iconst (v := 1) (by decide) ?_
      refine wa_goto o_X8_fail_21 (by decide) ?_
      refine wa_puti ck_8 fl_8_62 ly_30 (fun s7 hs7 => ?_)
      have Fs7 : Sm 30 31 σ s7 := by rw [hs7]; exact Sm.si (Sm.rf 30 31 σ) _ _ (by decide) (by decide)
      refine wa_aload_n (i := 0) rfl rfl ?_
      refine wa_aload_n (i := 0) rfl rfl ?_
      refine wa_geti ck_8 fl_8_136 ly_30 ?_
      refine wa_rw (nxk_gi_si hs7 (by decide)) ?_
      refine wa_puti ck_8 fl_8_123 ly_30 (fun s8 hs8 => ?_)
      have Fs8 : Sm 30 31 σ s8 := by rw [hs8]; exact Sm.si Fs7 _ _ (by decide) (by decide)
      refine wa_aload_n (i := 0) rfl rfl ?_
      refine wa_bipush (v := 44) (by decide) ?_
      refine wa_puti ck_8 fl_8_39 ly_30 (fun s9 hs9 => ?_)
      have Fs9 : Sm 30 31 σ s9 := by rw [hs9]; exact Sm.si Fs8 _ _ (by decide) (by decide)
      refine wa_return (st := []) rfl rfl ?_
      exact ⟨Fs9, trivial⟩
set_option maxHeartbeats 4000000 in
theorem sp_X8_expectEnd (G : kG9) {d : Nat} (hd : 1 ≤ d) (σ : St) : Ct G M_X8_expectEnd d [.ref 30] σ (fun r σ' => Sm 30 31 σ σ' ∧ True) := by
  refine wa_start (by decide) rfl (Nat.le_of_ble_eq_true rfl) (lv := [(0, .ref 30)]) rfl o_X8_expectEnd_0 rfl ?_
  refine wa_aload_n (i := 0) rfl rfl ?_
  refine wa_geti ck_8 fl_8_39 ly_30 ?_
  refine wa_if_eq o_X8_expectEnd_12 (by decide) (fun h1 => ?_) (fun h1 => ?_)
  · refine wa_return (st := []) rfl rfl ?_
    exact ⟨(Sm.rf 30 31 σ), trivial⟩
  · refine wa_aload_n (i := 0) rfl rfl ?_
    refine wa_iconst (v := 2) (by decide) ?_
    refine wa_Vv (d9 := d - 1) [.int _] [] (sp_X8_fail G (d := d - 1) (by omega) σ _) (rfl) rfl rfl (zr (by omega)) mk_X8_fail ly_30 ml_8_95 (Nat.le_of_ble_eq_true rfl) (fun s2 hs2 => ?_)
    obtain ⟨fs2, -⟩ := hs2
    have Fs2 := Sm.tr (Sm.rf 30 31 σ) (Sm.wd fs2 (lo' := 30) (hi' := 31) (by decide) (by decide))
    refine wa_return (st := []) rfl rfl ?_
    exact ⟨Fs2, trivial⟩
set_option maxHeartbeats 4000000 in
theorem sp_X8_readName (G : kG9) {d : Nat} (hd : 7 ≤ d) (σ : St) (a1 : Int32) : Ct G M_X8_readName d [.ref 30, .ref 1, .int a1] σ (fun r σ' => ∃ x : Int32, r = some (.int x) ∧ Sm 18 31 σ σ' ∧ True) := by
  refine wa_start (by decide) rfl (Nat.le_of_ble_eq_true rfl) (lv := [(0, .ref 30), (1, .ref 1), (2, .int a1)]) rfl o_X8_readName_0 rfl ?_
  have ua1 := Int32.toInt_lt a1
  have wa1 := Int32.le_toInt a1
  refine wa_aload_n (i := 0) rfl rfl ?_
  refine wa_aload_n (i := 1) rfl rfl ?_
  refine wa_iconst (v := 0) (by decide) ?_
  refine wa_iload_n (i := 2) rfl rfl ?_
  refine wa_Vv (d9 := d - 1) [.ref 1, .int _, .int _] [] (sp_X8_begin_at_1 G (d := d - 1) (by omega) σ _ _) (rfl) rfl rfl (zr (by omega)) mk_X8_begin ly_30 ml_8_23 (Nat.le_of_ble_eq_true rfl) (fun s1 hs1 => ?_)
  obtain ⟨fs1, cx2_1, -⟩ := hs1
  have Fs1 := Sm.tr (Sm.rf 18 31 σ) (Sm.wd fs1 (lo' := 18) (hi' := 31) (by decide) (by decide))
  refine wa_aload_n (i := 0) rfl rfl ?_
  refine wa_getr ck_8 fl_8_15 ly_30 rf_30_1 ?_
  refine wa_aload_n (i := 0) rfl rfl ?_
  refine wa_getr ck_8 fl_8_9 ly_30 rf_30_0 ?_
  refine wa_aload_n (i := 0) rfl rfl ?_
  refine wa_geti ck_8 fl_8_79 ly_30 ?_
  refine wa_Vl (d9 := d - 1) [.int _] [.ref 7] (sp_X3_nameAt G (d := d - 1) (by omega) s1 _ (by first | assumption | exact Or.inl rfl | exact Or.inr rfl | (((try simp only [vp_in_iff, Int32.lt_iff_toInt_lt, Int32.le_iff_toInt_le, ← Int32.toInt_inj, Int32.reduceToInt, n_1, n_2, n_8, Int32.toNatClampNeg, Int64.lt_iff_toInt_lt, Int64.le_iff_toInt_le, ← Int64.toInt_inj, Int64.reduceToInt, Int32.toInt_toInt64, lg_cmp_ge, lg_cmp_le, lg_cmp_gt, lg_cmp_lt, lg_cmp_eq, Bool.false_eq_true, Bool.true_eq_false, reduceCtorEq, false_iff, true_iff, iff_true, iff_false, and_true, true_and, and_false, false_and, reduceIte, ite_true, ite_false, eq_self] at *)) <;> omega))) (rfl) rfl rfl (zr (by omega)) mk_X3_nameAt ly_18 ml_8_82 (Nat.le_of_ble_eq_true rfl) (fun x4 s3 hs3 => ?_)
  obtain ⟨zs3, -⟩ := pL hs3
  subst zs3
  refine wa_Vi (d9 := d - 1) [.long _] [] (sp_X2_claimOf G (d := d - 1) (by omega) s1 _) (rfl) rfl rfl (zr (by omega)) mk_X2_claimOf ly_7 ml_8_88 (Nat.le_of_ble_eq_true rfl) (fun x6 s5 hs5 => ?_)
  obtain ⟨zs5, -⟩ := pI hs5
  subst zs5
  refine wa_istore_nD (lv' := [(3, .int x6), (0, .ref 30), (1, .ref 1), (2, .int a1)]) (i := 3) rfl (by decide) rfl ?_
  refine wa_aload_n (i := 0) rfl rfl ?_
  refine wa_geti ck_8 fl_8_39 ly_30 ?_
  refine wa_iconst (v := 1) (by decide) ?_
  refine wa_icmp_ne o_X8_readName_56 (by decide) (fun h7 => ?_) (fun h7 => ?_)
  · refine wa_aload_n (i := 0) rfl rfl ?_
    refine wa_iconst (v := 2) (by decide) ?_
    refine wa_Vv (d9 := d - 1) [.int _] [] (sp_X8_fail G (d := d - 1) (by omega) s1 _) (rfl) rfl rfl (zr (by omega)) mk_X8_fail ly_30 ml_8_95 (Nat.le_of_ble_eq_true rfl) (fun s8 hs8 => ?_)
    obtain ⟨fs8, -⟩ := hs8
    have Fs8 := Sm.tr Fs1 (Sm.wd fs8 (lo' := 18) (hi' := 31) (by decide) (by decide))
    refine wa_goto o_X8_readName_81 (by decide) ?_
    refine wa_aload_n (i := 0) rfl rfl ?_
    refine wa_Vv (d9 := d - 1) [] [] (sp_X8_expectEnd G (d := d - 1) (by omega) s8 ) (rfl) rfl rfl (zr (by omega)) mk_X8_expectEnd ly_30 ml_8_59 (Nat.le_of_ble_eq_true rfl) (fun s10 hs10 => ?_)
    obtain ⟨fs10, -⟩ := hs10
    have Fs10 := Sm.tr Fs8 (Sm.wd fs10 (lo' := 18) (hi' := 31) (by decide) (by decide))
    refine wa_aload_n (i := 0) rfl rfl ?_
    refine wa_geti ck_8 fl_8_62 ly_30 ?_
    refine wa_if_ne o_X8_readName_96 (by decide) (fun h12 => ?_) (fun h12 => ?_)
    · refine wa_iconst (v := (-1)) (by decide) ?_
      refine wa_ireturn rfl rfl ?_
      exact ⟨_, rfl, Fs10, trivial⟩
    · refine wa_iload_n (i := 3) rfl rfl ?_
      refine wa_goto o_X8_readName_97 (by decide) ?_
      refine wa_ireturn rfl rfl ?_
      exact ⟨_, rfl, Fs10, trivial⟩
  · refine wa_aload_n (i := 0) rfl rfl ?_
    refine wa_getr ck_8 fl_8_15 ly_30 rf_30_1 ?_
    refine wa_aload_n (i := 0) rfl rfl ?_
    refine wa_getr ck_8 fl_8_9 ly_30 rf_30_0 ?_
    refine wa_aload_n (i := 0) rfl rfl ?_
    refine wa_geti ck_8 fl_8_79 ly_30 ?_
    refine wa_Vl (d9 := d - 1) [.int _] [.ref 7] (sp_X3_nameAt G (d := d - 1) (by omega) s1 _ (by first | assumption | exact Or.inl rfl | exact Or.inr rfl | (((try simp only [vp_in_iff, Int32.lt_iff_toInt_lt, Int32.le_iff_toInt_le, ← Int32.toInt_inj, Int32.reduceToInt, n_1, n_2, n_8, Int32.toNatClampNeg, Int64.lt_iff_toInt_lt, Int64.le_iff_toInt_le, ← Int64.toInt_inj, Int64.reduceToInt, Int32.toInt_toInt64, lg_cmp_ge, lg_cmp_le, lg_cmp_gt, lg_cmp_lt, lg_cmp_eq, Bool.false_eq_true, Bool.true_eq_false, reduceCtorEq, false_iff, true_iff, iff_true, iff_false, and_true, true_and, and_false, false_and, reduceIte, ite_true, ite_false, eq_self] at *)) <;> omega))) (rfl) rfl rfl (zr (by omega)) mk_X3_nameAt ly_18 ml_8_82 (Nat.le_of_ble_eq_true rfl) (fun x14 s13 hs13 => ?_)
    obtain ⟨zs13, -⟩ := pL hs13
    subst zs13
    refine wa_Vi (d9 := d - 1) [.long _] [] (sp_X2_variableOf G (d := d - 1) (by omega) s1 _) (rfl) rfl rfl (zr (by omega)) mk_X2_variableOf ly_7 ml_8_92 (Nat.le_of_ble_eq_true rfl) (fun x16 s15 hs15 => ?_)
    obtain ⟨zs15, -⟩ := pI hs15
    subst zs15
    refine wa_iconst (v := (-1)) (by decide) ?_
    refine wa_icmp_eq o_X8_readName_64 (by decide) (fun h17 => ?_) (fun h17 => ?_)
    · refine wa_iload_n (i := 3) rfl rfl ?_
      refine wa_iconst (v := (-1)) (by decide) ?_
      refine wa_icmp_ne o_X8_readName_77 (by decide) (fun h18 => ?_) (fun h18 => ?_)
      · refine wa_aload_n (i := 0) rfl rfl ?_
        refine wa_Vv (d9 := d - 1) [] [] (sp_X8_next G (d := d - 1) (by omega) s1 ) (rfl) rfl rfl (zr (by omega)) mk_X8_next ly_30 ml_8_98 (Nat.le_of_ble_eq_true rfl) (fun s19 hs19 => ?_)
        obtain ⟨fs19, -⟩ := hs19
        have Fs19 := Sm.tr Fs1 (Sm.wd fs19 (lo' := 18) (hi' := 31) (by decide) (by decide))
        refine wa_aload_n (i := 0) rfl rfl ?_
        refine wa_Vv (d9 := d - 1) [] [] (sp_X8_expectEnd G (d := d - 1) (by omega) s19 ) (rfl) rfl rfl (zr (by omega)) mk_X8_expectEnd ly_30 ml_8_59 (Nat.le_of_ble_eq_true rfl) (fun s21 hs21 => ?_)
        obtain ⟨fs21, -⟩ := hs21
        have Fs21 := Sm.tr Fs19 (Sm.wd fs21 (lo' := 18) (hi' := 31) (by decide) (by decide))
        refine wa_aload_n (i := 0) rfl rfl ?_
        refine wa_geti ck_8 fl_8_62 ly_30 ?_
        refine wa_if_ne o_X8_readName_96 (by decide) (fun h23 => ?_) (fun h23 => ?_)
        · refine wa_iconst (v := (-1)) (by decide) ?_
          refine wa_ireturn rfl rfl ?_
          exact ⟨_, rfl, Fs21, trivial⟩
        · refine wa_iload_n (i := 3) rfl rfl ?_
          refine wa_goto o_X8_readName_97 (by decide) ?_
          refine wa_ireturn rfl rfl ?_
          exact ⟨_, rfl, Fs21, trivial⟩
      · refine wa_aload_n (i := 0) rfl rfl ?_
        refine wa_iconst (v := 3) (by decide) ?_
        refine wa_Vv (d9 := d - 1) [.int _] [] (sp_X8_fail G (d := d - 1) (by omega) s1 _) (rfl) rfl rfl (zr (by omega)) mk_X8_fail ly_30 ml_8_95 (Nat.le_of_ble_eq_true rfl) (fun s24 hs24 => ?_)
        obtain ⟨fs24, -⟩ := hs24
        have Fs24 := Sm.tr Fs1 (Sm.wd fs24 (lo' := 18) (hi' := 31) (by decide) (by decide))
        refine wa_goto o_X8_readName_81 (by decide) ?_
        refine wa_aload_n (i := 0) rfl rfl ?_
        refine wa_Vv (d9 := d - 1) [] [] (sp_X8_expectEnd G (d := d - 1) (by omega) s24 ) (rfl) rfl rfl (zr (by omega)) mk_X8_expectEnd ly_30 ml_8_59 (Nat.le_of_ble_eq_true rfl) (fun s26 hs26 => ?_)
        obtain ⟨fs26, -⟩ := hs26
        have Fs26 := Sm.tr Fs24 (Sm.wd fs26 (lo' := 18) (hi' := 31) (by decide) (by decide))
        refine wa_aload_n (i := 0) rfl rfl ?_
        refine wa_geti ck_8 fl_8_62 ly_30 ?_
        refine wa_if_ne o_X8_readName_96 (by decide) (fun h28 => ?_) (fun h28 => ?_)
        · refine wa_iconst (v := (-1)) (by decide) ?_
          refine wa_ireturn rfl rfl ?_
          exact ⟨_, rfl, Fs26, trivial⟩
        · refine wa_iload_n (i := 3) rfl rfl ?_
          refine wa_goto o_X8_readName_97 (by decide) ?_
          refine wa_ireturn rfl rfl ?_
          exact ⟨_, rfl, Fs26, trivial⟩
    · refine wa_aload_n (i := 0) rfl rfl ?_
      refine wa_iconst (v := 2) (by decide) ?_
      refine wa_Vv (d9 := d - 1) [.int _] [] (sp_X8_fail G (d := d - 1) (by omega) s1 _) (rfl) rfl rfl (zr (by omega)) mk_X8_fail ly_30 ml_8_95 (Nat.le_of_ble_eq_true rfl) (fun s29 hs29 => ?_)
      obtain ⟨fs29, -⟩ := hs29
      have Fs29 := Sm.tr Fs1 (Sm.wd fs29 (lo' := 18) (hi' := 31) (by decide) (by decide))
      refine wa_goto o_X8_readName_81 (by decide) ?_
      refine wa_aload_n (i := 0) rfl rfl ?_
      refine wa_Vv (d9 := d - 1) [] [] (sp_X8_expectEnd G (d := d - 1) (by omega) s29 ) (rfl) rfl rfl (zr (by omega)) mk_X8_expectEnd ly_30 ml_8_59 (Nat.le_of_ble_eq_true rfl) (fun s31 hs31 => ?_)
      obtain ⟨fs31, -⟩ := hs31
      have Fs31 := Sm.tr Fs29 (Sm.wd fs31 (lo' := 18) (hi' := 31) (by decide) (by decide))
      refine wa_aload_n (i := 0) rfl rfl ?_
      refine wa_geti ck_8 fl_8_62 ly_30 ?_
      refine wa_if_ne o_X8_readName_96 (by decide) (fun h33 => ?_) (fun h33 => ?_)
      · refine wa_iconst (v := (-1)) (by decide) ?_
        refine wa_ireturn rfl rfl ?_
        exact ⟨_, rfl, Fs31, trivial⟩
      · refine wa_iload_n (i := 3) rfl rfl ?_
        refine wa_goto o_X8_readName_97 (by decide) ?_
        refine wa_ireturn rfl rfl ?_
        exact ⟨_, rfl, Fs31, trivial⟩
set_option maxHeartbeats 4000000 in
theorem sp_X8_accept (G : kG9) {d : Nat} (hd : 1 ≤ d) (σ : St) (a0 : Int32) (a1 : Int32) : Ct G M_X8_accept d [.ref 30, .int a0, .int a1] σ (fun r σ' => Sm 10 31 σ σ' ∧ True) := by
  refine wa_start (by decide) rfl (Nat.le_of_ble_eq_true rfl) (lv := [(0, .ref 30), (1, .int a0), (2, .int a1)]) rfl o_X8_accept_0 rfl ?_
  have ua0 := Int32.toInt_lt a0
  have wa0 := Int32.le_toInt a0
  have ua1 := Int32.toInt_lt a1
  have wa1 := Int32.le_toInt a1
  refine wa_iload_n (i := 1) rfl rfl ?_
  refine wa_bipush (v := 25) (by decide) ?_
  refine wa_icmp_eq o_X8_accept_17 (by decide) (fun h1 => ?_) (fun h1 => ?_)
  · refine wa_iconst (v := 1) (by decide) ?_
    refine wa_goto o_X8_accept_22 (by decide) ?_
    refine wa_istore_nD (lv' := [(3, .int (bI true)), (0, .ref 30), (1, .int a0), (2, .int a1)]) (i := 3) rfl (by decide) rfl ?_
    refine wa_aload_n (i := 0) rfl rfl ?_
    refine wa_geti ck_8 fl_8_39 ly_30 ?_
    refine wa_iload_n (i := 1) rfl rfl ?_
    refine wa_icmp_eq o_X8_accept_39 (by decide) (fun h2 => ?_) (fun h2 => ?_)
    · refine wa_aload_n (i := 0) rfl rfl ?_
      refine wa_geti ck_8 fl_8_167 ly_30 ?_
      refine wa_bipush (v := 120) (by decide) ?_
      refine wa_icmp_ge o_X8_accept_61 (by decide) (fun h3 => ?_) (fun h3 => ?_)
      · refine wa_aload_n (i := 0) rfl rfl ?_
        refine wa_iconst (v := 5) (by decide) ?_
        refine wa_Vv (d9 := d - 1) [.int _] [] (sp_X8_fail G (d := d - 1) (by omega) σ _) (rfl) rfl rfl (zr (by omega)) mk_X8_fail ly_30 ml_8_95 (Nat.le_of_ble_eq_true rfl) (fun s4 hs4 => ?_)
        obtain ⟨fs4, -⟩ := hs4
        have Fs4 := Sm.tr (Sm.rf 10 31 σ) (Sm.wd fs4 (lo' := 10) (hi' := 31) (by decide) (by decide))
        refine wa_goto o_X8_accept_132 (by decide) ?_
        refine wa_return (st := []) rfl rfl ?_
        exact ⟨Fs4, trivial⟩
      · have mh3 := nle_mx h3
        refine wa_iload_n (i := 3) rfl rfl ?_
        refine wa_if_eq o_X8_accept_69 (by decide) (fun h6 => ?_) (fun h6 => ?_)
        · replace h6 := bI_f (b := true) (rfl) h6
          refine wa_aload_n (i := 0) rfl rfl ?_
          refine wa_dup rfl ?_
          refine wa_geti ck_8 fl_8_173 ly_30 ?_
          refine wa_iload_n (i := 3) rfl rfl ?_
          refine wa_if_eq o_X8_accept_82 (by decide) (fun h7 => ?_) (fun h7 => ?_)
          · replace h7 := bI_f (b := true) (rfl) h7
            refine wa_iload_n (i := 1) rfl rfl ?_
            refine wa_iconst (v := 5) (by decide) ?_
            refine wa_icmp_eq o_X8_accept_93 (by decide) (fun h8 => ?_) (fun h8 => ?_)
            · refine wa_iconst (v := (-1)) (by decide) ?_
              refine wa_goto o_X8_accept_98 (by decide) ?_
              refine wa_iadd ?_
              refine wa_top (fun v9 hv9 => ?_)
              have tv9 := i_addT hv9
              clear hv9
              refine wa_puti ck_8 fl_8_173 ly_30 (fun s10 hs10 => ?_)
              have Fs10 : Sm 10 31 σ s10 := by rw [hs10]; exact Sm.si (Sm.rf 10 31 σ) _ _ (by decide) (by decide)
              refine wa_aload_n (i := 0) rfl rfl ?_
              refine wa_getr ck_8 fl_8_15 ly_30 rf_30_1 ?_
              refine wa_aload_n (i := 0) rfl rfl ?_
              refine wa_geti ck_8 fl_8_164 ly_30 ?_
              refine wa_rw (nxk_gi_si hs10 (by decide)) ?_
              refine wa_aload_n (i := 0) rfl rfl ?_
              refine wa_geti ck_8 fl_8_167 ly_30 ?_
              refine wa_rw (nxk_gi_si hs10 (by decide)) ?_
              refine wa_iload_n (i := 2) rfl rfl ?_
              refine wa_Vv (d9 := d - 1) [.int _, .int _, .int _] [] (sp_X2_setToken G (d := d - 1) (by omega) s10 _ _ _) (rfl) rfl rfl (zr (by omega)) mk_X2_setToken ly_7 ml_8_185 (Nat.le_of_ble_eq_true rfl) (fun s11 hs11 => ?_)
              obtain ⟨fs11, -⟩ := hs11
              have Fs11 := Sm.tr Fs10 (Sm.wd fs11 (lo' := 10) (hi' := 31) (by decide) (by decide))
              refine wa_aload_n (i := 0) rfl rfl ?_
              refine wa_dup rfl ?_
              refine wa_geti ck_8 fl_8_167 ly_30 ?_
              refine wa_rw ((Sm.gi fs11 12 (Or.inr (by decide))).trans (nxk_gi_si hs10 (by decide))) ?_
              refine wa_iconst (v := 1) (by decide) ?_
              refine wa_iadd ?_
              refine wa_top (fun v13 hv13 => ?_)
              have tv13 := i_addT hv13
              clear hv13
              refine wa_puti ck_8 fl_8_167 ly_30 (fun s14 hs14 => ?_)
              have Fs14 : Sm 10 31 σ s14 := by rw [hs14]; exact Sm.si Fs11 _ _ (by decide) (by decide)
              refine wa_aload_n (i := 0) rfl rfl ?_
              refine wa_Vv (d9 := d - 1) [] [] (sp_X8_next G (d := d - 1) (by omega) s14 ) (rfl) rfl rfl (zr (by omega)) mk_X8_next ly_30 ml_8_98 (Nat.le_of_ble_eq_true rfl) (fun s15 hs15 => ?_)
              obtain ⟨fs15, -⟩ := hs15
              have Fs15 := Sm.tr Fs14 (Sm.wd fs15 (lo' := 10) (hi' := 31) (by decide) (by decide))
              refine wa_return (st := []) rfl rfl ?_
              exact ⟨Fs15, trivial⟩
            · refine wa_iload_n (i := 1) rfl rfl ?_
              refine wa_bipush (v := 7) (by decide) ?_
              refine wa_icmp_ne o_X8_accept_97 (by decide) (fun h17 => ?_) (fun h17 => ?_)
              · refine wa_iconst (v := 0) (by decide) ?_
                refine wa_iadd ?_
                refine wa_top (fun v18 hv18 => ?_)
                have tv18 := i_addT hv18
                clear hv18
                refine wa_puti ck_8 fl_8_173 ly_30 (fun s19 hs19 => ?_)
                have Fs19 : Sm 10 31 σ s19 := by rw [hs19]; exact Sm.si (Sm.rf 10 31 σ) _ _ (by decide) (by decide)
                refine wa_aload_n (i := 0) rfl rfl ?_
                refine wa_getr ck_8 fl_8_15 ly_30 rf_30_1 ?_
                refine wa_aload_n (i := 0) rfl rfl ?_
                refine wa_geti ck_8 fl_8_164 ly_30 ?_
                refine wa_rw (nxk_gi_si hs19 (by decide)) ?_
                refine wa_aload_n (i := 0) rfl rfl ?_
                refine wa_geti ck_8 fl_8_167 ly_30 ?_
                refine wa_rw (nxk_gi_si hs19 (by decide)) ?_
                refine wa_iload_n (i := 2) rfl rfl ?_
                refine wa_Vv (d9 := d - 1) [.int _, .int _, .int _] [] (sp_X2_setToken G (d := d - 1) (by omega) s19 _ _ _) (rfl) rfl rfl (zr (by omega)) mk_X2_setToken ly_7 ml_8_185 (Nat.le_of_ble_eq_true rfl) (fun s20 hs20 => ?_)
                obtain ⟨fs20, -⟩ := hs20
                have Fs20 := Sm.tr Fs19 (Sm.wd fs20 (lo' := 10) (hi' := 31) (by decide) (by decide))
                refine wa_aload_n (i := 0) rfl rfl ?_
                refine wa_dup rfl ?_
                refine wa_geti ck_8 fl_8_167 ly_30 ?_
                refine wa_rw ((Sm.gi fs20 12 (Or.inr (by decide))).trans (nxk_gi_si hs19 (by decide))) ?_
                refine wa_iconst (v := 1) (by decide) ?_
                refine wa_iadd ?_
                refine wa_top (fun v22 hv22 => ?_)
                have tv22 := i_addT hv22
                clear hv22
                refine wa_puti ck_8 fl_8_167 ly_30 (fun s23 hs23 => ?_)
                have Fs23 : Sm 10 31 σ s23 := by rw [hs23]; exact Sm.si Fs20 _ _ (by decide) (by decide)
                refine wa_aload_n (i := 0) rfl rfl ?_
                refine wa_Vv (d9 := d - 1) [] [] (sp_X8_next G (d := d - 1) (by omega) s23 ) (rfl) rfl rfl (zr (by omega)) mk_X8_next ly_30 ml_8_98 (Nat.le_of_ble_eq_true rfl) (fun s24 hs24 => ?_)
                obtain ⟨fs24, -⟩ := hs24
                have Fs24 := Sm.tr Fs23 (Sm.wd fs24 (lo' := 10) (hi' := 31) (by decide) (by decide))
                refine wa_return (st := []) rfl rfl ?_
                exact ⟨Fs24, trivial⟩
              · refine wa_iconst (v := (-1)) (by decide) ?_
                refine wa_goto o_X8_accept_98 (by decide) ?_
                refine wa_iadd ?_
                refine wa_top (fun v26 hv26 => ?_)
                have tv26 := i_addT hv26
                clear hv26
                refine wa_puti ck_8 fl_8_173 ly_30 (fun s27 hs27 => ?_)
                have Fs27 : Sm 10 31 σ s27 := by rw [hs27]; exact Sm.si (Sm.rf 10 31 σ) _ _ (by decide) (by decide)
                refine wa_aload_n (i := 0) rfl rfl ?_
                refine wa_getr ck_8 fl_8_15 ly_30 rf_30_1 ?_
                refine wa_aload_n (i := 0) rfl rfl ?_
                refine wa_geti ck_8 fl_8_164 ly_30 ?_
                refine wa_rw (nxk_gi_si hs27 (by decide)) ?_
                refine wa_aload_n (i := 0) rfl rfl ?_
                refine wa_geti ck_8 fl_8_167 ly_30 ?_
                refine wa_rw (nxk_gi_si hs27 (by decide)) ?_
                refine wa_iload_n (i := 2) rfl rfl ?_
                refine wa_Vv (d9 := d - 1) [.int _, .int _, .int _] [] (sp_X2_setToken G (d := d - 1) (by omega) s27 _ _ _) (rfl) rfl rfl (zr (by omega)) mk_X2_setToken ly_7 ml_8_185 (Nat.le_of_ble_eq_true rfl) (fun s28 hs28 => ?_)
                obtain ⟨fs28, -⟩ := hs28
                have Fs28 := Sm.tr Fs27 (Sm.wd fs28 (lo' := 10) (hi' := 31) (by decide) (by decide))
                refine wa_aload_n (i := 0) rfl rfl ?_
                refine wa_dup rfl ?_
                refine wa_geti ck_8 fl_8_167 ly_30 ?_
                refine wa_rw ((Sm.gi fs28 12 (Or.inr (by decide))).trans (nxk_gi_si hs27 (by decide))) ?_
                refine wa_iconst (v := 1) (by decide) ?_
                refine wa_iadd ?_
                refine wa_top (fun v30 hv30 => ?_)
                have tv30 := i_addT hv30
                clear hv30
                refine wa_puti ck_8 fl_8_167 ly_30 (fun s31 hs31 => ?_)
                have Fs31 : Sm 10 31 σ s31 := by rw [hs31]; exact Sm.si Fs28 _ _ (by decide) (by decide)
                refine wa_aload_n (i := 0) rfl rfl ?_
                refine wa_Vv (d9 := d - 1) [] [] (sp_X8_next G (d := d - 1) (by omega) s31 ) (rfl) rfl rfl (zr (by omega)) mk_X8_next ly_30 ml_8_98 (Nat.le_of_ble_eq_true rfl) (fun s32 hs32 => ?_)
                obtain ⟨fs32, -⟩ := hs32
                have Fs32 := Sm.tr Fs31 (Sm.wd fs32 (lo' := 10) (hi' := 31) (by decide) (by decide))
                refine wa_return (st := []) rfl rfl ?_
                exact ⟨Fs32, trivial⟩
          · replace h7 := bI_t (b := true) (rfl) h7
            refine wa_iconst (v := 1) (by decide) ?_
            refine wa_goto o_X8_accept_98 (by decide) ?_
            refine wa_iadd ?_
            refine wa_top (fun v34 hv34 => ?_)
            have tv34 := i_addT hv34
            clear hv34
            refine wa_puti ck_8 fl_8_173 ly_30 (fun s35 hs35 => ?_)
            have Fs35 : Sm 10 31 σ s35 := by rw [hs35]; exact Sm.si (Sm.rf 10 31 σ) _ _ (by decide) (by decide)
            refine wa_aload_n (i := 0) rfl rfl ?_
            refine wa_getr ck_8 fl_8_15 ly_30 rf_30_1 ?_
            refine wa_aload_n (i := 0) rfl rfl ?_
            refine wa_geti ck_8 fl_8_164 ly_30 ?_
            refine wa_rw (nxk_gi_si hs35 (by decide)) ?_
            refine wa_aload_n (i := 0) rfl rfl ?_
            refine wa_geti ck_8 fl_8_167 ly_30 ?_
            refine wa_rw (nxk_gi_si hs35 (by decide)) ?_
            refine wa_iload_n (i := 2) rfl rfl ?_
            refine wa_Vv (d9 := d - 1) [.int _, .int _, .int _] [] (sp_X2_setToken G (d := d - 1) (by omega) s35 _ _ _) (rfl) rfl rfl (zr (by omega)) mk_X2_setToken ly_7 ml_8_185 (Nat.le_of_ble_eq_true rfl) (fun s36 hs36 => ?_)
            obtain ⟨fs36, -⟩ := hs36
            have Fs36 := Sm.tr Fs35 (Sm.wd fs36 (lo' := 10) (hi' := 31) (by decide) (by decide))
            refine wa_aload_n (i := 0) rfl rfl ?_
            refine wa_dup rfl ?_
            refine wa_geti ck_8 fl_8_167 ly_30 ?_
            refine wa_rw ((Sm.gi fs36 12 (Or.inr (by decide))).trans (nxk_gi_si hs35 (by decide))) ?_
            refine wa_iconst (v := 1) (by decide) ?_
            refine wa_iadd ?_
            refine wa_top (fun v38 hv38 => ?_)
            have tv38 := i_addT hv38
            clear hv38
            refine wa_puti ck_8 fl_8_167 ly_30 (fun s39 hs39 => ?_)
            have Fs39 : Sm 10 31 σ s39 := by rw [hs39]; exact Sm.si Fs36 _ _ (by decide) (by decide)
            refine wa_aload_n (i := 0) rfl rfl ?_
            refine wa_Vv (d9 := d - 1) [] [] (sp_X8_next G (d := d - 1) (by omega) s39 ) (rfl) rfl rfl (zr (by omega)) mk_X8_next ly_30 ml_8_98 (Nat.le_of_ble_eq_true rfl) (fun s40 hs40 => ?_)
            obtain ⟨fs40, -⟩ := hs40
            have Fs40 := Sm.tr Fs39 (Sm.wd fs40 (lo' := 10) (hi' := 31) (by decide) (by decide))
            refine wa_return (st := []) rfl rfl ?_
            exact ⟨Fs40, trivial⟩
        · replace h6 := bI_t (b := true) (rfl) h6
          refine wa_aload_n (i := 0) rfl rfl ?_
          refine wa_geti ck_8 fl_8_173 ly_30 ?_
          refine wa_bipush (v := 12) (by decide) ?_
          refine wa_icmp_lt o_X8_accept_69 (by decide) (fun h42 => ?_) (fun h42 => ?_)
          · refine wa_aload_n (i := 0) rfl rfl ?_
            refine wa_dup rfl ?_
            refine wa_geti ck_8 fl_8_173 ly_30 ?_
            refine wa_iload_n (i := 3) rfl rfl ?_
            refine wa_if_eq o_X8_accept_82 (by decide) (fun h43 => ?_) (fun h43 => ?_)
            · replace h43 := bI_f (b := true) (rfl) h43
              refine wa_iload_n (i := 1) rfl rfl ?_
              refine wa_iconst (v := 5) (by decide) ?_
              refine wa_icmp_eq o_X8_accept_93 (by decide) (fun h44 => ?_) (fun h44 => ?_)
              · refine wa_iconst (v := (-1)) (by decide) ?_
                refine wa_goto o_X8_accept_98 (by decide) ?_
                refine wa_iadd ?_
                refine wa_top (fun v45 hv45 => ?_)
                have tv45 := i_addT hv45
                clear hv45
                refine wa_puti ck_8 fl_8_173 ly_30 (fun s46 hs46 => ?_)
                have Fs46 : Sm 10 31 σ s46 := by rw [hs46]; exact Sm.si (Sm.rf 10 31 σ) _ _ (by decide) (by decide)
                refine wa_aload_n (i := 0) rfl rfl ?_
                refine wa_getr ck_8 fl_8_15 ly_30 rf_30_1 ?_
                refine wa_aload_n (i := 0) rfl rfl ?_
                refine wa_geti ck_8 fl_8_164 ly_30 ?_
                refine wa_rw (nxk_gi_si hs46 (by decide)) ?_
                refine wa_aload_n (i := 0) rfl rfl ?_
                refine wa_geti ck_8 fl_8_167 ly_30 ?_
                refine wa_rw (nxk_gi_si hs46 (by decide)) ?_
                refine wa_iload_n (i := 2) rfl rfl ?_
                refine wa_Vv (d9 := d - 1) [.int _, .int _, .int _] [] (sp_X2_setToken G (d := d - 1) (by omega) s46 _ _ _) (rfl) rfl rfl (zr (by omega)) mk_X2_setToken ly_7 ml_8_185 (Nat.le_of_ble_eq_true rfl) (fun s47 hs47 => ?_)
                obtain ⟨fs47, -⟩ := hs47
                have Fs47 := Sm.tr Fs46 (Sm.wd fs47 (lo' := 10) (hi' := 31) (by decide) (by decide))
                refine wa_aload_n (i := 0) rfl rfl ?_
                refine wa_dup rfl ?_
                refine wa_geti ck_8 fl_8_167 ly_30 ?_
                refine wa_rw ((Sm.gi fs47 12 (Or.inr (by decide))).trans (nxk_gi_si hs46 (by decide))) ?_
                refine wa_iconst (v := 1) (by decide) ?_
                refine wa_iadd ?_
                refine wa_top (fun v49 hv49 => ?_)
                have tv49 := i_addT hv49
                clear hv49
                refine wa_puti ck_8 fl_8_167 ly_30 (fun s50 hs50 => ?_)
                have Fs50 : Sm 10 31 σ s50 := by rw [hs50]; exact Sm.si Fs47 _ _ (by decide) (by decide)
                refine wa_aload_n (i := 0) rfl rfl ?_
                refine wa_Vv (d9 := d - 1) [] [] (sp_X8_next G (d := d - 1) (by omega) s50 ) (rfl) rfl rfl (zr (by omega)) mk_X8_next ly_30 ml_8_98 (Nat.le_of_ble_eq_true rfl) (fun s51 hs51 => ?_)
                obtain ⟨fs51, -⟩ := hs51
                have Fs51 := Sm.tr Fs50 (Sm.wd fs51 (lo' := 10) (hi' := 31) (by decide) (by decide))
                refine wa_return (st := []) rfl rfl ?_
                exact ⟨Fs51, trivial⟩
              · refine wa_iload_n (i := 1) rfl rfl ?_
                refine wa_bipush (v := 7) (by decide) ?_
                refine wa_icmp_ne o_X8_accept_97 (by decide) (fun h53 => ?_) (fun h53 => ?_)
                · refine wa_iconst (v := 0) (by decide) ?_
                  refine wa_iadd ?_
                  refine wa_top (fun v54 hv54 => ?_)
                  have tv54 := i_addT hv54
                  clear hv54
                  refine wa_puti ck_8 fl_8_173 ly_30 (fun s55 hs55 => ?_)
                  have Fs55 : Sm 10 31 σ s55 := by rw [hs55]; exact Sm.si (Sm.rf 10 31 σ) _ _ (by decide) (by decide)
                  refine wa_aload_n (i := 0) rfl rfl ?_
                  refine wa_getr ck_8 fl_8_15 ly_30 rf_30_1 ?_
                  refine wa_aload_n (i := 0) rfl rfl ?_
                  refine wa_geti ck_8 fl_8_164 ly_30 ?_
                  refine wa_rw (nxk_gi_si hs55 (by decide)) ?_
                  refine wa_aload_n (i := 0) rfl rfl ?_
                  refine wa_geti ck_8 fl_8_167 ly_30 ?_
                  refine wa_rw (nxk_gi_si hs55 (by decide)) ?_
                  refine wa_iload_n (i := 2) rfl rfl ?_
                  refine wa_Vv (d9 := d - 1) [.int _, .int _, .int _] [] (sp_X2_setToken G (d := d - 1) (by omega) s55 _ _ _) (rfl) rfl rfl (zr (by omega)) mk_X2_setToken ly_7 ml_8_185 (Nat.le_of_ble_eq_true rfl) (fun s56 hs56 => ?_)
                  obtain ⟨fs56, -⟩ := hs56
                  have Fs56 := Sm.tr Fs55 (Sm.wd fs56 (lo' := 10) (hi' := 31) (by decide) (by decide))
                  refine wa_aload_n (i := 0) rfl rfl ?_
                  refine wa_dup rfl ?_
                  refine wa_geti ck_8 fl_8_167 ly_30 ?_
                  refine wa_rw ((Sm.gi fs56 12 (Or.inr (by decide))).trans (nxk_gi_si hs55 (by decide))) ?_
                  refine wa_iconst (v := 1) (by decide) ?_
                  refine wa_iadd ?_
                  refine wa_top (fun v58 hv58 => ?_)
                  have tv58 := i_addT hv58
                  clear hv58
                  refine wa_puti ck_8 fl_8_167 ly_30 (fun s59 hs59 => ?_)
                  have Fs59 : Sm 10 31 σ s59 := by rw [hs59]; exact Sm.si Fs56 _ _ (by decide) (by decide)
                  refine wa_aload_n (i := 0) rfl rfl ?_
                  refine wa_Vv (d9 := d - 1) [] [] (sp_X8_next G (d := d - 1) (by omega) s59 ) (rfl) rfl rfl (zr (by omega)) mk_X8_next ly_30 ml_8_98 (Nat.le_of_ble_eq_true rfl) (fun s60 hs60 => ?_)
                  obtain ⟨fs60, -⟩ := hs60
                  have Fs60 := Sm.tr Fs59 (Sm.wd fs60 (lo' := 10) (hi' := 31) (by decide) (by decide))
                  refine wa_return (st := []) rfl rfl ?_
                  exact ⟨Fs60, trivial⟩
                · refine wa_iconst (v := (-1)) (by decide) ?_
                  refine wa_goto o_X8_accept_98 (by decide) ?_
                  refine wa_iadd ?_
                  refine wa_top (fun v62 hv62 => ?_)
                  have tv62 := i_addT hv62
                  clear hv62
                  refine wa_puti ck_8 fl_8_173 ly_30 (fun s63 hs63 => ?_)
                  have Fs63 : Sm 10 31 σ s63 := by rw [hs63]; exact Sm.si (Sm.rf 10 31 σ) _ _ (by decide) (by decide)
                  refine wa_aload_n (i := 0) rfl rfl ?_
                  refine wa_getr ck_8 fl_8_15 ly_30 rf_30_1 ?_
                  refine wa_aload_n (i := 0) rfl rfl ?_
                  refine wa_geti ck_8 fl_8_164 ly_30 ?_
                  refine wa_rw (nxk_gi_si hs63 (by decide)) ?_
                  refine wa_aload_n (i := 0) rfl rfl ?_
                  refine wa_geti ck_8 fl_8_167 ly_30 ?_
                  refine wa_rw (nxk_gi_si hs63 (by decide)) ?_
                  refine wa_iload_n (i := 2) rfl rfl ?_
                  refine wa_Vv (d9 := d - 1) [.int _, .int _, .int _] [] (sp_X2_setToken G (d := d - 1) (by omega) s63 _ _ _) (rfl) rfl rfl (zr (by omega)) mk_X2_setToken ly_7 ml_8_185 (Nat.le_of_ble_eq_true rfl) (fun s64 hs64 => ?_)
                  obtain ⟨fs64, -⟩ := hs64
                  have Fs64 := Sm.tr Fs63 (Sm.wd fs64 (lo' := 10) (hi' := 31) (by decide) (by decide))
                  refine wa_aload_n (i := 0) rfl rfl ?_
                  refine wa_dup rfl ?_
                  refine wa_geti ck_8 fl_8_167 ly_30 ?_
                  refine wa_rw ((Sm.gi fs64 12 (Or.inr (by decide))).trans (nxk_gi_si hs63 (by decide))) ?_
                  refine wa_iconst (v := 1) (by decide) ?_
                  refine wa_iadd ?_
                  refine wa_top (fun v66 hv66 => ?_)
                  have tv66 := i_addT hv66
                  clear hv66
                  refine wa_puti ck_8 fl_8_167 ly_30 (fun s67 hs67 => ?_)
                  have Fs67 : Sm 10 31 σ s67 := by rw [hs67]; exact Sm.si Fs64 _ _ (by decide) (by decide)
                  refine wa_aload_n (i := 0) rfl rfl ?_
                  refine wa_Vv (d9 := d - 1) [] [] (sp_X8_next G (d := d - 1) (by omega) s67 ) (rfl) rfl rfl (zr (by omega)) mk_X8_next ly_30 ml_8_98 (Nat.le_of_ble_eq_true rfl) (fun s68 hs68 => ?_)
                  obtain ⟨fs68, -⟩ := hs68
                  have Fs68 := Sm.tr Fs67 (Sm.wd fs68 (lo' := 10) (hi' := 31) (by decide) (by decide))
                  refine wa_return (st := []) rfl rfl ?_
                  exact ⟨Fs68, trivial⟩
            · replace h43 := bI_t (b := true) (rfl) h43
              refine wa_iconst (v := 1) (by decide) ?_
              refine wa_goto o_X8_accept_98 (by decide) ?_
              refine wa_iadd ?_
              refine wa_top (fun v70 hv70 => ?_)
              have tv70 := i_addT hv70
              clear hv70
              refine wa_puti ck_8 fl_8_173 ly_30 (fun s71 hs71 => ?_)
              have Fs71 : Sm 10 31 σ s71 := by rw [hs71]; exact Sm.si (Sm.rf 10 31 σ) _ _ (by decide) (by decide)
              refine wa_aload_n (i := 0) rfl rfl ?_
              refine wa_getr ck_8 fl_8_15 ly_30 rf_30_1 ?_
              refine wa_aload_n (i := 0) rfl rfl ?_
              refine wa_geti ck_8 fl_8_164 ly_30 ?_
              refine wa_rw (nxk_gi_si hs71 (by decide)) ?_
              refine wa_aload_n (i := 0) rfl rfl ?_
              refine wa_geti ck_8 fl_8_167 ly_30 ?_
              refine wa_rw (nxk_gi_si hs71 (by decide)) ?_
              refine wa_iload_n (i := 2) rfl rfl ?_
              refine wa_Vv (d9 := d - 1) [.int _, .int _, .int _] [] (sp_X2_setToken G (d := d - 1) (by omega) s71 _ _ _) (rfl) rfl rfl (zr (by omega)) mk_X2_setToken ly_7 ml_8_185 (Nat.le_of_ble_eq_true rfl) (fun s72 hs72 => ?_)
              obtain ⟨fs72, -⟩ := hs72
              have Fs72 := Sm.tr Fs71 (Sm.wd fs72 (lo' := 10) (hi' := 31) (by decide) (by decide))
              refine wa_aload_n (i := 0) rfl rfl ?_
              refine wa_dup rfl ?_
              refine wa_geti ck_8 fl_8_167 ly_30 ?_
              refine wa_rw ((Sm.gi fs72 12 (Or.inr (by decide))).trans (nxk_gi_si hs71 (by decide))) ?_
              refine wa_iconst (v := 1) (by decide) ?_
              refine wa_iadd ?_
              refine wa_top (fun v74 hv74 => ?_)
              have tv74 := i_addT hv74
              clear hv74
              refine wa_puti ck_8 fl_8_167 ly_30 (fun s75 hs75 => ?_)
              have Fs75 : Sm 10 31 σ s75 := by rw [hs75]; exact Sm.si Fs72 _ _ (by decide) (by decide)
              refine wa_aload_n (i := 0) rfl rfl ?_
              refine wa_Vv (d9 := d - 1) [] [] (sp_X8_next G (d := d - 1) (by omega) s75 ) (rfl) rfl rfl (zr (by omega)) mk_X8_next ly_30 ml_8_98 (Nat.le_of_ble_eq_true rfl) (fun s76 hs76 => ?_)
              obtain ⟨fs76, -⟩ := hs76
              have Fs76 := Sm.tr Fs75 (Sm.wd fs76 (lo' := 10) (hi' := 31) (by decide) (by decide))
              refine wa_return (st := []) rfl rfl ?_
              exact ⟨Fs76, trivial⟩
          · refine wa_aload_n (i := 0) rfl rfl ?_
            refine wa_iconst (v := 5) (by decide) ?_
            refine wa_Vv (d9 := d - 1) [.int _] [] (sp_X8_fail G (d := d - 1) (by omega) σ _) (rfl) rfl rfl (zr (by omega)) mk_X8_fail ly_30 ml_8_95 (Nat.le_of_ble_eq_true rfl) (fun s78 hs78 => ?_)
            obtain ⟨fs78, -⟩ := hs78
            have Fs78 := Sm.tr (Sm.rf 10 31 σ) (Sm.wd fs78 (lo' := 10) (hi' := 31) (by decide) (by decide))
            refine wa_goto o_X8_accept_132 (by decide) ?_
            refine wa_return (st := []) rfl rfl ?_
            exact ⟨Fs78, trivial⟩
    · refine wa_aload_n (i := 0) rfl rfl ?_
      refine wa_iconst (v := 2) (by decide) ?_
      refine wa_Vv (d9 := d - 1) [.int _] [] (sp_X8_fail G (d := d - 1) (by omega) σ _) (rfl) rfl rfl (zr (by omega)) mk_X8_fail ly_30 ml_8_95 (Nat.le_of_ble_eq_true rfl) (fun s80 hs80 => ?_)
      obtain ⟨fs80, -⟩ := hs80
      have Fs80 := Sm.tr (Sm.rf 10 31 σ) (Sm.wd fs80 (lo' := 10) (hi' := 31) (by decide) (by decide))
      refine wa_goto o_X8_accept_132 (by decide) ?_
      refine wa_return (st := []) rfl rfl ?_
      exact ⟨Fs80, trivial⟩
  · refine wa_iload_n (i := 1) rfl rfl ?_
    refine wa_iconst (v := 4) (by decide) ?_
    refine wa_icmp_eq o_X8_accept_17 (by decide) (fun h82 => ?_) (fun h82 => ?_)
    · refine wa_iconst (v := 1) (by decide) ?_
      refine wa_goto o_X8_accept_22 (by decide) ?_
      refine wa_istore_nD (lv' := [(3, .int (bI true)), (0, .ref 30), (1, .int a0), (2, .int a1)]) (i := 3) rfl (by decide) rfl ?_
      refine wa_aload_n (i := 0) rfl rfl ?_
      refine wa_geti ck_8 fl_8_39 ly_30 ?_
      refine wa_iload_n (i := 1) rfl rfl ?_
      refine wa_icmp_eq o_X8_accept_39 (by decide) (fun h83 => ?_) (fun h83 => ?_)
      · refine wa_aload_n (i := 0) rfl rfl ?_
        refine wa_geti ck_8 fl_8_167 ly_30 ?_
        refine wa_bipush (v := 120) (by decide) ?_
        refine wa_icmp_ge o_X8_accept_61 (by decide) (fun h84 => ?_) (fun h84 => ?_)
        · refine wa_aload_n (i := 0) rfl rfl ?_
          refine wa_iconst (v := 5) (by decide) ?_
          refine wa_Vv (d9 := d - 1) [.int _] [] (sp_X8_fail G (d := d - 1) (by omega) σ _) (rfl) rfl rfl (zr (by omega)) mk_X8_fail ly_30 ml_8_95 (Nat.le_of_ble_eq_true rfl) (fun s85 hs85 => ?_)
          obtain ⟨fs85, -⟩ := hs85
          have Fs85 := Sm.tr (Sm.rf 10 31 σ) (Sm.wd fs85 (lo' := 10) (hi' := 31) (by decide) (by decide))
          refine wa_goto o_X8_accept_132 (by decide) ?_
          refine wa_return (st := []) rfl rfl ?_
          exact ⟨Fs85, trivial⟩
        · have mh84 := nle_mx h84
          refine wa_iload_n (i := 3) rfl rfl ?_
          refine wa_if_eq o_X8_accept_69 (by decide) (fun h87 => ?_) (fun h87 => ?_)
          · replace h87 := bI_f (b := true) (rfl) h87
            refine wa_aload_n (i := 0) rfl rfl ?_
            refine wa_dup rfl ?_
            refine wa_geti ck_8 fl_8_173 ly_30 ?_
            refine wa_iload_n (i := 3) rfl rfl ?_
            refine wa_if_eq o_X8_accept_82 (by decide) (fun h88 => ?_) (fun h88 => ?_)
            · replace h88 := bI_f (b := true) (rfl) h88
              refine wa_iload_n (i := 1) rfl rfl ?_
              refine wa_iconst (v := 5) (by decide) ?_
              refine wa_icmp_eq o_X8_accept_93 (by decide) (fun h89 => ?_) (fun h89 => ?_)
              · refine wa_iconst (v := (-1)) (by decide) ?_
                refine wa_goto o_X8_accept_98 (by decide) ?_
                refine wa_iadd ?_
                refine wa_top (fun v90 hv90 => ?_)
                have tv90 := i_addT hv90
                clear hv90
                refine wa_puti ck_8 fl_8_173 ly_30 (fun s91 hs91 => ?_)
                have Fs91 : Sm 10 31 σ s91 := by rw [hs91]; exact Sm.si (Sm.rf 10 31 σ) _ _ (by decide) (by decide)
                refine wa_aload_n (i := 0) rfl rfl ?_
                refine wa_getr ck_8 fl_8_15 ly_30 rf_30_1 ?_
                refine wa_aload_n (i := 0) rfl rfl ?_
                refine wa_geti ck_8 fl_8_164 ly_30 ?_
                refine wa_rw (nxk_gi_si hs91 (by decide)) ?_
                refine wa_aload_n (i := 0) rfl rfl ?_
                refine wa_geti ck_8 fl_8_167 ly_30 ?_
                refine wa_rw (nxk_gi_si hs91 (by decide)) ?_
                refine wa_iload_n (i := 2) rfl rfl ?_
                refine wa_Vv (d9 := d - 1) [.int _, .int _, .int _] [] (sp_X2_setToken G (d := d - 1) (by omega) s91 _ _ _) (rfl) rfl rfl (zr (by omega)) mk_X2_setToken ly_7 ml_8_185 (Nat.le_of_ble_eq_true rfl) (fun s92 hs92 => ?_)
                obtain ⟨fs92, -⟩ := hs92
                have Fs92 := Sm.tr Fs91 (Sm.wd fs92 (lo' := 10) (hi' := 31) (by decide) (by decide))
                refine wa_aload_n (i := 0) rfl rfl ?_
                refine wa_dup rfl ?_
                refine wa_geti ck_8 fl_8_167 ly_30 ?_
                refine wa_rw ((Sm.gi fs92 12 (Or.inr (by decide))).trans (nxk_gi_si hs91 (by decide))) ?_
                refine wa_iconst (v := 1) (by decide) ?_
                refine wa_iadd ?_
                refine wa_top (fun v94 hv94 => ?_)
                have tv94 := i_addT hv94
                clear hv94
                refine wa_puti ck_8 fl_8_167 ly_30 (fun s95 hs95 => ?_)
                have Fs95 : Sm 10 31 σ s95 := by rw [hs95]; exact Sm.si Fs92 _ _ (by decide) (by decide)
                refine wa_aload_n (i := 0) rfl rfl ?_
                refine wa_Vv (d9 := d - 1) [] [] (sp_X8_next G (d := d - 1) (by omega) s95 ) (rfl) rfl rfl (zr (by omega)) mk_X8_next ly_30 ml_8_98 (Nat.le_of_ble_eq_true rfl) (fun s96 hs96 => ?_)
                obtain ⟨fs96, -⟩ := hs96
                have Fs96 := Sm.tr Fs95 (Sm.wd fs96 (lo' := 10) (hi' := 31) (by decide) (by decide))
                refine wa_return (st := []) rfl rfl ?_
                exact ⟨Fs96, trivial⟩
              · refine wa_iload_n (i := 1) rfl rfl ?_
                refine wa_bipush (v := 7) (by decide) ?_
                refine wa_icmp_ne o_X8_accept_97 (by decide) (fun h98 => ?_) (fun h98 => ?_)
                · refine wa_iconst (v := 0) (by decide) ?_
                  refine wa_iadd ?_
                  refine wa_top (fun v99 hv99 => ?_)
                  have tv99 := i_addT hv99
                  clear hv99
                  refine wa_puti ck_8 fl_8_173 ly_30 (fun s100 hs100 => ?_)
                  have Fs100 : Sm 10 31 σ s100 := by rw [hs100]; exact Sm.si (Sm.rf 10 31 σ) _ _ (by decide) (by decide)
                  refine wa_aload_n (i := 0) rfl rfl ?_
                  refine wa_getr ck_8 fl_8_15 ly_30 rf_30_1 ?_
                  refine wa_aload_n (i := 0) rfl rfl ?_
                  refine wa_geti ck_8 fl_8_164 ly_30 ?_
                  refine wa_rw (nxk_gi_si hs100 (by decide)) ?_
                  refine wa_aload_n (i := 0) rfl rfl ?_
                  refine wa_geti ck_8 fl_8_167 ly_30 ?_
                  refine wa_rw (nxk_gi_si hs100 (by decide)) ?_
                  refine wa_iload_n (i := 2) rfl rfl ?_
                  refine wa_Vv (d9 := d - 1) [.int _, .int _, .int _] [] (sp_X2_setToken G (d := d - 1) (by omega) s100 _ _ _) (rfl) rfl rfl (zr (by omega)) mk_X2_setToken ly_7 ml_8_185 (Nat.le_of_ble_eq_true rfl) (fun s101 hs101 => ?_)
                  obtain ⟨fs101, -⟩ := hs101
                  have Fs101 := Sm.tr Fs100 (Sm.wd fs101 (lo' := 10) (hi' := 31) (by decide) (by decide))
                  refine wa_aload_n (i := 0) rfl rfl ?_
                  refine wa_dup rfl ?_
                  refine wa_geti ck_8 fl_8_167 ly_30 ?_
                  refine wa_rw ((Sm.gi fs101 12 (Or.inr (by decide))).trans (nxk_gi_si hs100 (by decide))) ?_
                  refine wa_iconst (v := 1) (by decide) ?_
                  refine wa_iadd ?_
                  refine wa_top (fun v103 hv103 => ?_)
                  have tv103 := i_addT hv103
                  clear hv103
                  refine wa_puti ck_8 fl_8_167 ly_30 (fun s104 hs104 => ?_)
                  have Fs104 : Sm 10 31 σ s104 := by rw [hs104]; exact Sm.si Fs101 _ _ (by decide) (by decide)
                  refine wa_aload_n (i := 0) rfl rfl ?_
                  refine wa_Vv (d9 := d - 1) [] [] (sp_X8_next G (d := d - 1) (by omega) s104 ) (rfl) rfl rfl (zr (by omega)) mk_X8_next ly_30 ml_8_98 (Nat.le_of_ble_eq_true rfl) (fun s105 hs105 => ?_)
                  obtain ⟨fs105, -⟩ := hs105
                  have Fs105 := Sm.tr Fs104 (Sm.wd fs105 (lo' := 10) (hi' := 31) (by decide) (by decide))
                  refine wa_return (st := []) rfl rfl ?_
                  exact ⟨Fs105, trivial⟩
                · refine wa_iconst (v := (-1)) (by decide) ?_
                  refine wa_goto o_X8_accept_98 (by decide) ?_
                  refine wa_iadd ?_
                  refine wa_top (fun v107 hv107 => ?_)
                  have tv107 := i_addT hv107
                  clear hv107
                  refine wa_puti ck_8 fl_8_173 ly_30 (fun s108 hs108 => ?_)
                  have Fs108 : Sm 10 31 σ s108 := by rw [hs108]; exact Sm.si (Sm.rf 10 31 σ) _ _ (by decide) (by decide)
                  refine wa_aload_n (i := 0) rfl rfl ?_
                  refine wa_getr ck_8 fl_8_15 ly_30 rf_30_1 ?_
                  refine wa_aload_n (i := 0) rfl rfl ?_
                  refine wa_geti ck_8 fl_8_164 ly_30 ?_
                  refine wa_rw (nxk_gi_si hs108 (by decide)) ?_
                  refine wa_aload_n (i := 0) rfl rfl ?_
                  refine wa_geti ck_8 fl_8_167 ly_30 ?_
                  refine wa_rw (nxk_gi_si hs108 (by decide)) ?_
                  refine wa_iload_n (i := 2) rfl rfl ?_
                  refine wa_Vv (d9 := d - 1) [.int _, .int _, .int _] [] (sp_X2_setToken G (d := d - 1) (by omega) s108 _ _ _) (rfl) rfl rfl (zr (by omega)) mk_X2_setToken ly_7 ml_8_185 (Nat.le_of_ble_eq_true rfl) (fun s109 hs109 => ?_)
                  obtain ⟨fs109, -⟩ := hs109
                  have Fs109 := Sm.tr Fs108 (Sm.wd fs109 (lo' := 10) (hi' := 31) (by decide) (by decide))
                  refine wa_aload_n (i := 0) rfl rfl ?_
                  refine wa_dup rfl ?_
                  refine wa_geti ck_8 fl_8_167 ly_30 ?_
                  refine wa_rw ((Sm.gi fs109 12 (Or.inr (by decide))).trans (nxk_gi_si hs108 (by decide))) ?_
                  refine wa_iconst (v := 1) (by decide) ?_
                  refine wa_iadd ?_
                  refine wa_top (fun v111 hv111 => ?_)
                  have tv111 := i_addT hv111
                  clear hv111
                  refine wa_puti ck_8 fl_8_167 ly_30 (fun s112 hs112 => ?_)
                  have Fs112 : Sm 10 31 σ s112 := by rw [hs112]; exact Sm.si Fs109 _ _ (by decide) (by decide)
                  refine wa_aload_n (i := 0) rfl rfl ?_
                  refine wa_Vv (d9 := d - 1) [] [] (sp_X8_next G (d := d - 1) (by omega) s112 ) (rfl) rfl rfl (zr (by omega)) mk_X8_next ly_30 ml_8_98 (Nat.le_of_ble_eq_true rfl) (fun s113 hs113 => ?_)
                  obtain ⟨fs113, -⟩ := hs113
                  have Fs113 := Sm.tr Fs112 (Sm.wd fs113 (lo' := 10) (hi' := 31) (by decide) (by decide))
                  refine wa_return (st := []) rfl rfl ?_
                  exact ⟨Fs113, trivial⟩
            · replace h88 := bI_t (b := true) (rfl) h88
              refine wa_iconst (v := 1) (by decide) ?_
              refine wa_goto o_X8_accept_98 (by decide) ?_
              refine wa_iadd ?_
              refine wa_top (fun v115 hv115 => ?_)
              have tv115 := i_addT hv115
              clear hv115
              refine wa_puti ck_8 fl_8_173 ly_30 (fun s116 hs116 => ?_)
              have Fs116 : Sm 10 31 σ s116 := by rw [hs116]; exact Sm.si (Sm.rf 10 31 σ) _ _ (by decide) (by decide)
              refine wa_aload_n (i := 0) rfl rfl ?_
              refine wa_getr ck_8 fl_8_15 ly_30 rf_30_1 ?_
              refine wa_aload_n (i := 0) rfl rfl ?_
              refine wa_geti ck_8 fl_8_164 ly_30 ?_
              refine wa_rw (nxk_gi_si hs116 (by decide)) ?_
              refine wa_aload_n (i := 0) rfl rfl ?_
              refine wa_geti ck_8 fl_8_167 ly_30 ?_
              refine wa_rw (nxk_gi_si hs116 (by decide)) ?_
              refine wa_iload_n (i := 2) rfl rfl ?_
              refine wa_Vv (d9 := d - 1) [.int _, .int _, .int _] [] (sp_X2_setToken G (d := d - 1) (by omega) s116 _ _ _) (rfl) rfl rfl (zr (by omega)) mk_X2_setToken ly_7 ml_8_185 (Nat.le_of_ble_eq_true rfl) (fun s117 hs117 => ?_)
              obtain ⟨fs117, -⟩ := hs117
              have Fs117 := Sm.tr Fs116 (Sm.wd fs117 (lo' := 10) (hi' := 31) (by decide) (by decide))
              refine wa_aload_n (i := 0) rfl rfl ?_
              refine wa_dup rfl ?_
              refine wa_geti ck_8 fl_8_167 ly_30 ?_
              refine wa_rw ((Sm.gi fs117 12 (Or.inr (by decide))).trans (nxk_gi_si hs116 (by decide))) ?_
              refine wa_iconst (v := 1) (by decide) ?_
              refine wa_iadd ?_
              refine wa_top (fun v119 hv119 => ?_)
              have tv119 := i_addT hv119
              clear hv119
              refine wa_puti ck_8 fl_8_167 ly_30 (fun s120 hs120 => ?_)
              have Fs120 : Sm 10 31 σ s120 := by rw [hs120]; exact Sm.si Fs117 _ _ (by decide) (by decide)
              refine wa_aload_n (i := 0) rfl rfl ?_
              refine wa_Vv (d9 := d - 1) [] [] (sp_X8_next G (d := d - 1) (by omega) s120 ) (rfl) rfl rfl (zr (by omega)) mk_X8_next ly_30 ml_8_98 (Nat.le_of_ble_eq_true rfl) (fun s121 hs121 => ?_)
              obtain ⟨fs121, -⟩ := hs121
              have Fs121 := Sm.tr Fs120 (Sm.wd fs121 (lo' := 10) (hi' := 31) (by decide) (by decide))
              refine wa_return (st := []) rfl rfl ?_
              exact ⟨Fs121, trivial⟩
          · replace h87 := bI_t (b := true) (rfl) h87
            refine wa_aload_n (i := 0) rfl rfl ?_
            refine wa_geti ck_8 fl_8_173 ly_30 ?_
            refine wa_bipush (v := 12) (by decide) ?_
            refine wa_icmp_lt o_X8_accept_69 (by decide) (fun h123 => ?_) (fun h123 => ?_)
            · refine wa_aload_n (i := 0) rfl rfl ?_
              refine wa_dup rfl ?_
              refine wa_geti ck_8 fl_8_173 ly_30 ?_
              refine wa_iload_n (i := 3) rfl rfl ?_
              refine wa_if_eq o_X8_accept_82 (by decide) (fun h124 => ?_) (fun h124 => ?_)
              · replace h124 := bI_f (b := true) (rfl) h124
                refine wa_iload_n (i := 1) rfl rfl ?_
                refine wa_iconst (v := 5) (by decide) ?_
                refine wa_icmp_eq o_X8_accept_93 (by decide) (fun h125 => ?_) (fun h125 => ?_)
                · refine wa_iconst (v := (-1)) (by decide) ?_
                  refine wa_goto o_X8_accept_98 (by decide) ?_
                  refine wa_iadd ?_
                  refine wa_top (fun v126 hv126 => ?_)
                  have tv126 := i_addT hv126
                  clear hv126
                  refine wa_puti ck_8 fl_8_173 ly_30 (fun s127 hs127 => ?_)
                  have Fs127 : Sm 10 31 σ s127 := by rw [hs127]; exact Sm.si (Sm.rf 10 31 σ) _ _ (by decide) (by decide)
                  refine wa_aload_n (i := 0) rfl rfl ?_
                  refine wa_getr ck_8 fl_8_15 ly_30 rf_30_1 ?_
                  refine wa_aload_n (i := 0) rfl rfl ?_
                  refine wa_geti ck_8 fl_8_164 ly_30 ?_
                  refine wa_rw (nxk_gi_si hs127 (by decide)) ?_
                  refine wa_aload_n (i := 0) rfl rfl ?_
                  refine wa_geti ck_8 fl_8_167 ly_30 ?_
                  refine wa_rw (nxk_gi_si hs127 (by decide)) ?_
                  refine wa_iload_n (i := 2) rfl rfl ?_
                  refine wa_Vv (d9 := d - 1) [.int _, .int _, .int _] [] (sp_X2_setToken G (d := d - 1) (by omega) s127 _ _ _) (rfl) rfl rfl (zr (by omega)) mk_X2_setToken ly_7 ml_8_185 (Nat.le_of_ble_eq_true rfl) (fun s128 hs128 => ?_)
                  obtain ⟨fs128, -⟩ := hs128
                  have Fs128 := Sm.tr Fs127 (Sm.wd fs128 (lo' := 10) (hi' := 31) (by decide) (by decide))
                  refine wa_aload_n (i := 0) rfl rfl ?_
                  refine wa_dup rfl ?_
                  refine wa_geti ck_8 fl_8_167 ly_30 ?_
                  refine wa_rw ((Sm.gi fs128 12 (Or.inr (by decide))).trans (nxk_gi_si hs127 (by decide))) ?_
                  refine wa_iconst (v := 1) (by decide) ?_
                  refine wa_iadd ?_
                  refine wa_top (fun v130 hv130 => ?_)
                  have tv130 := i_addT hv130
                  clear hv130
                  refine wa_puti ck_8 fl_8_167 ly_30 (fun s131 hs131 => ?_)
                  have Fs131 : Sm 10 31 σ s131 := by rw [hs131]; exact Sm.si Fs128 _ _ (by decide) (by decide)
                  refine wa_aload_n (i := 0) rfl rfl ?_
                  refine wa_Vv (d9 := d - 1) [] [] (sp_X8_next G (d := d - 1) (by omega) s131 ) (rfl) rfl rfl (zr (by omega)) mk_X8_next ly_30 ml_8_98 (Nat.le_of_ble_eq_true rfl) (fun s132 hs132 => ?_)
                  obtain ⟨fs132, -⟩ := hs132
                  have Fs132 := Sm.tr Fs131 (Sm.wd fs132 (lo' := 10) (hi' := 31) (by decide) (by decide))
                  refine wa_return (st := []) rfl rfl ?_
                  exact ⟨Fs132, trivial⟩
                · refine wa_iload_n (i := 1) rfl rfl ?_
                  refine wa_bipush (v := 7) (by decide) ?_
                  refine wa_icmp_ne o_X8_accept_97 (by decide) (fun h134 => ?_) (fun h134 => ?_)
                  · refine wa_iconst (v := 0) (by decide) ?_
                    refine wa_iadd ?_
                    refine wa_top (fun v135 hv135 => ?_)
                    have tv135 := i_addT hv135
                    clear hv135
                    refine wa_puti ck_8 fl_8_173 ly_30 (fun s136 hs136 => ?_)
                    have Fs136 : Sm 10 31 σ s136 := by rw [hs136]; exact Sm.si (Sm.rf 10 31 σ) _ _ (by decide) (by decide)
                    refine wa_aload_n (i := 0) rfl rfl ?_
                    refine wa_getr ck_8 fl_8_15 ly_30 rf_30_1 ?_
                    refine wa_aload_n (i := 0) rfl rfl ?_
                    refine wa_geti ck_8 fl_8_164 ly_30 ?_
                    refine wa_rw (nxk_gi_si hs136 (by decide)) ?_
                    refine wa_aload_n (i := 0) rfl rfl ?_
                    refine wa_geti ck_8 fl_8_167 ly_30 ?_
                    refine wa_rw (nxk_gi_si hs136 (by decide)) ?_
                    refine wa_iload_n (i := 2) rfl rfl ?_
                    refine wa_Vv (d9 := d - 1) [.int _, .int _, .int _] [] (sp_X2_setToken G (d := d - 1) (by omega) s136 _ _ _) (rfl) rfl rfl (zr (by omega)) mk_X2_setToken ly_7 ml_8_185 (Nat.le_of_ble_eq_true rfl) (fun s137 hs137 => ?_)
                    obtain ⟨fs137, -⟩ := hs137
                    have Fs137 := Sm.tr Fs136 (Sm.wd fs137 (lo' := 10) (hi' := 31) (by decide) (by decide))
                    refine wa_aload_n (i := 0) rfl rfl ?_
                    refine wa_dup rfl ?_
                    refine wa_geti ck_8 fl_8_167 ly_30 ?_
                    refine wa_rw ((Sm.gi fs137 12 (Or.inr (by decide))).trans (nxk_gi_si hs136 (by decide))) ?_
                    refine wa_iconst (v := 1) (by decide) ?_
                    refine wa_iadd ?_
                    refine wa_top (fun v139 hv139 => ?_)
                    have tv139 := i_addT hv139
                    clear hv139
                    refine wa_puti ck_8 fl_8_167 ly_30 (fun s140 hs140 => ?_)
                    have Fs140 : Sm 10 31 σ s140 := by rw [hs140]; exact Sm.si Fs137 _ _ (by decide) (by decide)
                    refine wa_aload_n (i := 0) rfl rfl ?_
                    refine wa_Vv (d9 := d - 1) [] [] (sp_X8_next G (d := d - 1) (by omega) s140 ) (rfl) rfl rfl (zr (by omega)) mk_X8_next ly_30 ml_8_98 (Nat.le_of_ble_eq_true rfl) (fun s141 hs141 => ?_)
                    obtain ⟨fs141, -⟩ := hs141
                    have Fs141 := Sm.tr Fs140 (Sm.wd fs141 (lo' := 10) (hi' := 31) (by decide) (by decide))
                    refine wa_return (st := []) rfl rfl ?_
                    exact ⟨Fs141, trivial⟩
                  · refine wa_iconst (v := (-1)) (by decide) ?_
                    refine wa_goto o_X8_accept_98 (by decide) ?_
                    refine wa_iadd ?_
                    refine wa_top (fun v143 hv143 => ?_)
                    have tv143 := i_addT hv143
                    clear hv143
                    refine wa_puti ck_8 fl_8_173 ly_30 (fun s144 hs144 => ?_)
                    have Fs144 : Sm 10 31 σ s144 := by rw [hs144]; exact Sm.si (Sm.rf 10 31 σ) _ _ (by decide) (by decide)
                    refine wa_aload_n (i := 0) rfl rfl ?_
                    refine wa_getr ck_8 fl_8_15 ly_30 rf_30_1 ?_
                    refine wa_aload_n (i := 0) rfl rfl ?_
                    refine wa_geti ck_8 fl_8_164 ly_30 ?_
                    refine wa_rw (nxk_gi_si hs144 (by decide)) ?_
                    refine wa_aload_n (i := 0) rfl rfl ?_
                    refine wa_geti ck_8 fl_8_167 ly_30 ?_
                    refine wa_rw (nxk_gi_si hs144 (by decide)) ?_
                    refine wa_iload_n (i := 2) rfl rfl ?_
                    refine wa_Vv (d9 := d - 1) [.int _, .int _, .int _] [] (sp_X2_setToken G (d := d - 1) (by omega) s144 _ _ _) (rfl) rfl rfl (zr (by omega)) mk_X2_setToken ly_7 ml_8_185 (Nat.le_of_ble_eq_true rfl) (fun s145 hs145 => ?_)
                    obtain ⟨fs145, -⟩ := hs145
                    have Fs145 := Sm.tr Fs144 (Sm.wd fs145 (lo' := 10) (hi' := 31) (by decide) (by decide))
                    refine wa_aload_n (i := 0) rfl rfl ?_
                    refine wa_dup rfl ?_
                    refine wa_geti ck_8 fl_8_167 ly_30 ?_
                    refine wa_rw ((Sm.gi fs145 12 (Or.inr (by decide))).trans (nxk_gi_si hs144 (by decide))) ?_
                    refine wa_iconst (v := 1) (by decide) ?_
                    refine wa_iadd ?_
                    refine wa_top (fun v147 hv147 => ?_)
                    have tv147 := i_addT hv147
                    clear hv147
                    refine wa_puti ck_8 fl_8_167 ly_30 (fun s148 hs148 => ?_)
                    have Fs148 : Sm 10 31 σ s148 := by rw [hs148]; exact Sm.si Fs145 _ _ (by decide) (by decide)
                    refine wa_aload_n (i := 0) rfl rfl ?_
                    refine wa_Vv (d9 := d - 1) [] [] (sp_X8_next G (d := d - 1) (by omega) s148 ) (rfl) rfl rfl (zr (by omega)) mk_X8_next ly_30 ml_8_98 (Nat.le_of_ble_eq_true rfl) (fun s149 hs149 => ?_)
                    obtain ⟨fs149, -⟩ := hs149
                    have Fs149 := Sm.tr Fs148 (Sm.wd fs149 (lo' := 10) (hi' := 31) (by decide) (by decide))
                    refine wa_return (st := []) rfl rfl ?_
                    exact ⟨Fs149, trivial⟩
              · replace h124 := bI_t (b := true) (rfl) h124
                refine wa_iconst (v := 1) (by decide) ?_
                refine wa_goto o_X8_accept_98 (by decide) ?_
                refine wa_iadd ?_
                refine wa_top (fun v151 hv151 => ?_)
                have tv151 := i_addT hv151
                clear hv151
                refine wa_puti ck_8 fl_8_173 ly_30 (fun s152 hs152 => ?_)
                have Fs152 : Sm 10 31 σ s152 := by rw [hs152]; exact Sm.si (Sm.rf 10 31 σ) _ _ (by decide) (by decide)
                refine wa_aload_n (i := 0) rfl rfl ?_
                refine wa_getr ck_8 fl_8_15 ly_30 rf_30_1 ?_
                refine wa_aload_n (i := 0) rfl rfl ?_
                refine wa_geti ck_8 fl_8_164 ly_30 ?_
                refine wa_rw (nxk_gi_si hs152 (by decide)) ?_
                refine wa_aload_n (i := 0) rfl rfl ?_
                refine wa_geti ck_8 fl_8_167 ly_30 ?_
                refine wa_rw (nxk_gi_si hs152 (by decide)) ?_
                refine wa_iload_n (i := 2) rfl rfl ?_
                refine wa_Vv (d9 := d - 1) [.int _, .int _, .int _] [] (sp_X2_setToken G (d := d - 1) (by omega) s152 _ _ _) (rfl) rfl rfl (zr (by omega)) mk_X2_setToken ly_7 ml_8_185 (Nat.le_of_ble_eq_true rfl) (fun s153 hs153 => ?_)
                obtain ⟨fs153, -⟩ := hs153
                have Fs153 := Sm.tr Fs152 (Sm.wd fs153 (lo' := 10) (hi' := 31) (by decide) (by decide))
                refine wa_aload_n (i := 0) rfl rfl ?_
                refine wa_dup rfl ?_
                refine wa_geti ck_8 fl_8_167 ly_30 ?_
                refine wa_rw ((Sm.gi fs153 12 (Or.inr (by decide))).trans (nxk_gi_si hs152 (by decide))) ?_
                refine wa_iconst (v := 1) (by decide) ?_
                refine wa_iadd ?_
                refine wa_top (fun v155 hv155 => ?_)
                have tv155 := i_addT hv155
                clear hv155
                refine wa_puti ck_8 fl_8_167 ly_30 (fun s156 hs156 => ?_)
                have Fs156 : Sm 10 31 σ s156 := by rw [hs156]; exact Sm.si Fs153 _ _ (by decide) (by decide)
                refine wa_aload_n (i := 0) rfl rfl ?_
                refine wa_Vv (d9 := d - 1) [] [] (sp_X8_next G (d := d - 1) (by omega) s156 ) (rfl) rfl rfl (zr (by omega)) mk_X8_next ly_30 ml_8_98 (Nat.le_of_ble_eq_true rfl) (fun s157 hs157 => ?_)
                obtain ⟨fs157, -⟩ := hs157
                have Fs157 := Sm.tr Fs156 (Sm.wd fs157 (lo' := 10) (hi' := 31) (by decide) (by decide))
                refine wa_return (st := []) rfl rfl ?_
                exact ⟨Fs157, trivial⟩
            · refine wa_aload_n (i := 0) rfl rfl ?_
              refine wa_iconst (v := 5) (by decide) ?_
              refine wa_Vv (d9 := d - 1) [.int _] [] (sp_X8_fail G (d := d - 1) (by omega) σ _) (rfl) rfl rfl (zr (by omega)) mk_X8_fail ly_30 ml_8_95 (Nat.le_of_ble_eq_true rfl) (fun s159 hs159 => ?_)
              obtain ⟨fs159, -⟩ := hs159
              have Fs159 := Sm.tr (Sm.rf 10 31 σ) (Sm.wd fs159 (lo' := 10) (hi' := 31) (by decide) (by decide))
              refine wa_goto o_X8_accept_132 (by decide) ?_
              refine wa_return (st := []) rfl rfl ?_
              exact ⟨Fs159, trivial⟩
      · refine wa_aload_n (i := 0) rfl rfl ?_
        refine wa_iconst (v := 2) (by decide) ?_
        refine wa_Vv (d9 := d - 1) [.int _] [] (sp_X8_fail G (d := d - 1) (by omega) σ _) (rfl) rfl rfl (zr (by omega)) mk_X8_fail ly_30 ml_8_95 (Nat.le_of_ble_eq_true rfl) (fun s161 hs161 => ?_)
        obtain ⟨fs161, -⟩ := hs161
        have Fs161 := Sm.tr (Sm.rf 10 31 σ) (Sm.wd fs161 (lo' := 10) (hi' := 31) (by decide) (by decide))
        refine wa_goto o_X8_accept_132 (by decide) ?_
        refine wa_return (st := []) rfl rfl ?_
        exact ⟨Fs161, trivial⟩
    · refine wa_iload_n (i := 1) rfl rfl ?_
      refine wa_bipush (v := 6) (by decide) ?_
      refine wa_icmp_ne o_X8_accept_21 (by decide) (fun h163 => ?_) (fun h163 => ?_)
      · refine wa_iconst (v := 0) (by decide) ?_
        refine wa_istore_nD (lv' := [(3, .int (bI false)), (0, .ref 30), (1, .int a0), (2, .int a1)]) (i := 3) rfl (by decide) rfl ?_
        refine wa_aload_n (i := 0) rfl rfl ?_
        refine wa_geti ck_8 fl_8_39 ly_30 ?_
        refine wa_iload_n (i := 1) rfl rfl ?_
        refine wa_icmp_eq o_X8_accept_39 (by decide) (fun h164 => ?_) (fun h164 => ?_)
        · refine wa_aload_n (i := 0) rfl rfl ?_
          refine wa_geti ck_8 fl_8_167 ly_30 ?_
          refine wa_bipush (v := 120) (by decide) ?_
          refine wa_icmp_ge o_X8_accept_61 (by decide) (fun h165 => ?_) (fun h165 => ?_)
          · refine wa_aload_n (i := 0) rfl rfl ?_
            refine wa_iconst (v := 5) (by decide) ?_
            refine wa_Vv (d9 := d - 1) [.int _] [] (sp_X8_fail G (d := d - 1) (by omega) σ _) (rfl) rfl rfl (zr (by omega)) mk_X8_fail ly_30 ml_8_95 (Nat.le_of_ble_eq_true rfl) (fun s166 hs166 => ?_)
            obtain ⟨fs166, -⟩ := hs166
            have Fs166 := Sm.tr (Sm.rf 10 31 σ) (Sm.wd fs166 (lo' := 10) (hi' := 31) (by decide) (by decide))
            refine wa_goto o_X8_accept_132 (by decide) ?_
            refine wa_return (st := []) rfl rfl ?_
            exact ⟨Fs166, trivial⟩
          · have mh165 := nle_mx h165
            refine wa_iload_n (i := 3) rfl rfl ?_
            refine wa_if_eq o_X8_accept_69 (by decide) (fun h168 => ?_) (fun h168 => ?_)
            · replace h168 := bI_f (b := false) (rfl) h168
              refine wa_aload_n (i := 0) rfl rfl ?_
              refine wa_dup rfl ?_
              refine wa_geti ck_8 fl_8_173 ly_30 ?_
              refine wa_iload_n (i := 3) rfl rfl ?_
              refine wa_if_eq o_X8_accept_82 (by decide) (fun h169 => ?_) (fun h169 => ?_)
              · replace h169 := bI_f (b := false) (rfl) h169
                refine wa_iload_n (i := 1) rfl rfl ?_
                refine wa_iconst (v := 5) (by decide) ?_
                refine wa_icmp_eq o_X8_accept_93 (by decide) (fun h170 => ?_) (fun h170 => ?_)
                · refine wa_iconst (v := (-1)) (by decide) ?_
                  refine wa_goto o_X8_accept_98 (by decide) ?_
                  refine wa_iadd ?_
                  refine wa_top (fun v171 hv171 => ?_)
                  have tv171 := i_addT hv171
                  clear hv171
                  refine wa_puti ck_8 fl_8_173 ly_30 (fun s172 hs172 => ?_)
                  have Fs172 : Sm 10 31 σ s172 := by rw [hs172]; exact Sm.si (Sm.rf 10 31 σ) _ _ (by decide) (by decide)
                  refine wa_aload_n (i := 0) rfl rfl ?_
                  refine wa_getr ck_8 fl_8_15 ly_30 rf_30_1 ?_
                  refine wa_aload_n (i := 0) rfl rfl ?_
                  refine wa_geti ck_8 fl_8_164 ly_30 ?_
                  refine wa_rw (nxk_gi_si hs172 (by decide)) ?_
                  refine wa_aload_n (i := 0) rfl rfl ?_
                  refine wa_geti ck_8 fl_8_167 ly_30 ?_
                  refine wa_rw (nxk_gi_si hs172 (by decide)) ?_
                  refine wa_iload_n (i := 2) rfl rfl ?_
                  refine wa_Vv (d9 := d - 1) [.int _, .int _, .int _] [] (sp_X2_setToken G (d := d - 1) (by omega) s172 _ _ _) (rfl) rfl rfl (zr (by omega)) mk_X2_setToken ly_7 ml_8_185 (Nat.le_of_ble_eq_true rfl) (fun s173 hs173 => ?_)
                  obtain ⟨fs173, -⟩ := hs173
                  have Fs173 := Sm.tr Fs172 (Sm.wd fs173 (lo' := 10) (hi' := 31) (by decide) (by decide))
                  refine wa_aload_n (i := 0) rfl rfl ?_
                  refine wa_dup rfl ?_
                  refine wa_geti ck_8 fl_8_167 ly_30 ?_
                  refine wa_rw ((Sm.gi fs173 12 (Or.inr (by decide))).trans (nxk_gi_si hs172 (by decide))) ?_
                  refine wa_iconst (v := 1) (by decide) ?_
                  refine wa_iadd ?_
                  refine wa_top (fun v175 hv175 => ?_)
                  have tv175 := i_addT hv175
                  clear hv175
                  refine wa_puti ck_8 fl_8_167 ly_30 (fun s176 hs176 => ?_)
                  have Fs176 : Sm 10 31 σ s176 := by rw [hs176]; exact Sm.si Fs173 _ _ (by decide) (by decide)
                  refine wa_aload_n (i := 0) rfl rfl ?_
                  refine wa_Vv (d9 := d - 1) [] [] (sp_X8_next G (d := d - 1) (by omega) s176 ) (rfl) rfl rfl (zr (by omega)) mk_X8_next ly_30 ml_8_98 (Nat.le_of_ble_eq_true rfl) (fun s177 hs177 => ?_)
                  obtain ⟨fs177, -⟩ := hs177
                  have Fs177 := Sm.tr Fs176 (Sm.wd fs177 (lo' := 10) (hi' := 31) (by decide) (by decide))
                  refine wa_return (st := []) rfl rfl ?_
                  exact ⟨Fs177, trivial⟩
                · refine wa_iload_n (i := 1) rfl rfl ?_
                  refine wa_bipush (v := 7) (by decide) ?_
                  refine wa_icmp_ne o_X8_accept_97 (by decide) (fun h179 => ?_) (fun h179 => ?_)
                  · refine wa_iconst (v := 0) (by decide) ?_
                    refine wa_iadd ?_
                    refine wa_top (fun v180 hv180 => ?_)
                    have tv180 := i_addT hv180
                    clear hv180
                    refine wa_puti ck_8 fl_8_173 ly_30 (fun s181 hs181 => ?_)
                    have Fs181 : Sm 10 31 σ s181 := by rw [hs181]; exact Sm.si (Sm.rf 10 31 σ) _ _ (by decide) (by decide)
                    refine wa_aload_n (i := 0) rfl rfl ?_
                    refine wa_getr ck_8 fl_8_15 ly_30 rf_30_1 ?_
                    refine wa_aload_n (i := 0) rfl rfl ?_
                    refine wa_geti ck_8 fl_8_164 ly_30 ?_
                    refine wa_rw (nxk_gi_si hs181 (by decide)) ?_
                    refine wa_aload_n (i := 0) rfl rfl ?_
                    refine wa_geti ck_8 fl_8_167 ly_30 ?_
                    refine wa_rw (nxk_gi_si hs181 (by decide)) ?_
                    refine wa_iload_n (i := 2) rfl rfl ?_
                    refine wa_Vv (d9 := d - 1) [.int _, .int _, .int _] [] (sp_X2_setToken G (d := d - 1) (by omega) s181 _ _ _) (rfl) rfl rfl (zr (by omega)) mk_X2_setToken ly_7 ml_8_185 (Nat.le_of_ble_eq_true rfl) (fun s182 hs182 => ?_)
                    obtain ⟨fs182, -⟩ := hs182
                    have Fs182 := Sm.tr Fs181 (Sm.wd fs182 (lo' := 10) (hi' := 31) (by decide) (by decide))
                    refine wa_aload_n (i := 0) rfl rfl ?_
                    refine wa_dup rfl ?_
                    refine wa_geti ck_8 fl_8_167 ly_30 ?_
                    refine wa_rw ((Sm.gi fs182 12 (Or.inr (by decide))).trans (nxk_gi_si hs181 (by decide))) ?_
                    refine wa_iconst (v := 1) (by decide) ?_
                    refine wa_iadd ?_
                    refine wa_top (fun v184 hv184 => ?_)
                    have tv184 := i_addT hv184
                    clear hv184
                    refine wa_puti ck_8 fl_8_167 ly_30 (fun s185 hs185 => ?_)
                    have Fs185 : Sm 10 31 σ s185 := by rw [hs185]; exact Sm.si Fs182 _ _ (by decide) (by decide)
                    refine wa_aload_n (i := 0) rfl rfl ?_
                    refine wa_Vv (d9 := d - 1) [] [] (sp_X8_next G (d := d - 1) (by omega) s185 ) (rfl) rfl rfl (zr (by omega)) mk_X8_next ly_30 ml_8_98 (Nat.le_of_ble_eq_true rfl) (fun s186 hs186 => ?_)
                    obtain ⟨fs186, -⟩ := hs186
                    have Fs186 := Sm.tr Fs185 (Sm.wd fs186 (lo' := 10) (hi' := 31) (by decide) (by decide))
                    refine wa_return (st := []) rfl rfl ?_
                    exact ⟨Fs186, trivial⟩
                  · refine wa_iconst (v := (-1)) (by decide) ?_
                    refine wa_goto o_X8_accept_98 (by decide) ?_
                    refine wa_iadd ?_
                    refine wa_top (fun v188 hv188 => ?_)
                    have tv188 := i_addT hv188
                    clear hv188
                    refine wa_puti ck_8 fl_8_173 ly_30 (fun s189 hs189 => ?_)
                    have Fs189 : Sm 10 31 σ s189 := by rw [hs189]; exact Sm.si (Sm.rf 10 31 σ) _ _ (by decide) (by decide)
                    refine wa_aload_n (i := 0) rfl rfl ?_
                    refine wa_getr ck_8 fl_8_15 ly_30 rf_30_1 ?_
                    refine wa_aload_n (i := 0) rfl rfl ?_
                    refine wa_geti ck_8 fl_8_164 ly_30 ?_
                    refine wa_rw (nxk_gi_si hs189 (by decide)) ?_
                    refine wa_aload_n (i := 0) rfl rfl ?_
                    refine wa_geti ck_8 fl_8_167 ly_30 ?_
                    refine wa_rw (nxk_gi_si hs189 (by decide)) ?_
                    refine wa_iload_n (i := 2) rfl rfl ?_
                    refine wa_Vv (d9 := d - 1) [.int _, .int _, .int _] [] (sp_X2_setToken G (d := d - 1) (by omega) s189 _ _ _) (rfl) rfl rfl (zr (by omega)) mk_X2_setToken ly_7 ml_8_185 (Nat.le_of_ble_eq_true rfl) (fun s190 hs190 => ?_)
                    obtain ⟨fs190, -⟩ := hs190
                    have Fs190 := Sm.tr Fs189 (Sm.wd fs190 (lo' := 10) (hi' := 31) (by decide) (by decide))
                    refine wa_aload_n (i := 0) rfl rfl ?_
                    refine wa_dup rfl ?_
                    refine wa_geti ck_8 fl_8_167 ly_30 ?_
                    refine wa_rw ((Sm.gi fs190 12 (Or.inr (by decide))).trans (nxk_gi_si hs189 (by decide))) ?_
                    refine wa_iconst (v := 1) (by decide) ?_
                    refine wa_iadd ?_
                    refine wa_top (fun v192 hv192 => ?_)
                    have tv192 := i_addT hv192
                    clear hv192
                    refine wa_puti ck_8 fl_8_167 ly_30 (fun s193 hs193 => ?_)
                    have Fs193 : Sm 10 31 σ s193 := by rw [hs193]; exact Sm.si Fs190 _ _ (by decide) (by decide)
                    refine wa_aload_n (i := 0) rfl rfl ?_
                    refine wa_Vv (d9 := d - 1) [] [] (sp_X8_next G (d := d - 1) (by omega) s193 ) (rfl) rfl rfl (zr (by omega)) mk_X8_next ly_30 ml_8_98 (Nat.le_of_ble_eq_true rfl) (fun s194 hs194 => ?_)
                    obtain ⟨fs194, -⟩ := hs194
                    have Fs194 := Sm.tr Fs193 (Sm.wd fs194 (lo' := 10) (hi' := 31) (by decide) (by decide))
                    refine wa_return (st := []) rfl rfl ?_
                    exact ⟨Fs194, trivial⟩
              · replace h169 := bI_t (b := false) (rfl) h169
                refine wa_iconst (v := 1) (by decide) ?_
                refine wa_goto o_X8_accept_98 (by decide) ?_
                refine wa_iadd ?_
                refine wa_top (fun v196 hv196 => ?_)
                have tv196 := i_addT hv196
                clear hv196
                refine wa_puti ck_8 fl_8_173 ly_30 (fun s197 hs197 => ?_)
                have Fs197 : Sm 10 31 σ s197 := by rw [hs197]; exact Sm.si (Sm.rf 10 31 σ) _ _ (by decide) (by decide)
                refine wa_aload_n (i := 0) rfl rfl ?_
                refine wa_getr ck_8 fl_8_15 ly_30 rf_30_1 ?_
                refine wa_aload_n (i := 0) rfl rfl ?_
                refine wa_geti ck_8 fl_8_164 ly_30 ?_
                refine wa_rw (nxk_gi_si hs197 (by decide)) ?_
                refine wa_aload_n (i := 0) rfl rfl ?_
                refine wa_geti ck_8 fl_8_167 ly_30 ?_
                refine wa_rw (nxk_gi_si hs197 (by decide)) ?_
                refine wa_iload_n (i := 2) rfl rfl ?_
                refine wa_Vv (d9 := d - 1) [.int _, .int _, .int _] [] (sp_X2_setToken G (d := d - 1) (by omega) s197 _ _ _) (rfl) rfl rfl (zr (by omega)) mk_X2_setToken ly_7 ml_8_185 (Nat.le_of_ble_eq_true rfl) (fun s198 hs198 => ?_)
                obtain ⟨fs198, -⟩ := hs198
                have Fs198 := Sm.tr Fs197 (Sm.wd fs198 (lo' := 10) (hi' := 31) (by decide) (by decide))
                refine wa_aload_n (i := 0) rfl rfl ?_
                refine wa_dup rfl ?_
                refine wa_geti ck_8 fl_8_167 ly_30 ?_
                refine wa_rw ((Sm.gi fs198 12 (Or.inr (by decide))).trans (nxk_gi_si hs197 (by decide))) ?_
                refine wa_iconst (v := 1) (by decide) ?_
                refine wa_iadd ?_
                refine wa_top (fun v200 hv200 => ?_)
                have tv200 := i_addT hv200
                clear hv200
                refine wa_puti ck_8 fl_8_167 ly_30 (fun s201 hs201 => ?_)
                have Fs201 : Sm 10 31 σ s201 := by rw [hs201]; exact Sm.si Fs198 _ _ (by decide) (by decide)
                refine wa_aload_n (i := 0) rfl rfl ?_
                refine wa_Vv (d9 := d - 1) [] [] (sp_X8_next G (d := d - 1) (by omega) s201 ) (rfl) rfl rfl (zr (by omega)) mk_X8_next ly_30 ml_8_98 (Nat.le_of_ble_eq_true rfl) (fun s202 hs202 => ?_)
                obtain ⟨fs202, -⟩ := hs202
                have Fs202 := Sm.tr Fs201 (Sm.wd fs202 (lo' := 10) (hi' := 31) (by decide) (by decide))
                refine wa_return (st := []) rfl rfl ?_
                exact ⟨Fs202, trivial⟩
            · replace h168 := bI_t (b := false) (rfl) h168
              refine wa_aload_n (i := 0) rfl rfl ?_
              refine wa_geti ck_8 fl_8_173 ly_30 ?_
              refine wa_bipush (v := 12) (by decide) ?_
              refine wa_icmp_lt o_X8_accept_69 (by decide) (fun h204 => ?_) (fun h204 => ?_)
              · refine wa_aload_n (i := 0) rfl rfl ?_
                refine wa_dup rfl ?_
                refine wa_geti ck_8 fl_8_173 ly_30 ?_
                refine wa_iload_n (i := 3) rfl rfl ?_
                refine wa_if_eq o_X8_accept_82 (by decide) (fun h205 => ?_) (fun h205 => ?_)
                · replace h205 := bI_f (b := false) (rfl) h205
                  refine wa_iload_n (i := 1) rfl rfl ?_
                  refine wa_iconst (v := 5) (by decide) ?_
                  refine wa_icmp_eq o_X8_accept_93 (by decide) (fun h206 => ?_) (fun h206 => ?_)
                  · refine wa_iconst (v := (-1)) (by decide) ?_
                    refine wa_goto o_X8_accept_98 (by decide) ?_
                    refine wa_iadd ?_
                    refine wa_top (fun v207 hv207 => ?_)
                    have tv207 := i_addT hv207
                    clear hv207
                    refine wa_puti ck_8 fl_8_173 ly_30 (fun s208 hs208 => ?_)
                    have Fs208 : Sm 10 31 σ s208 := by rw [hs208]; exact Sm.si (Sm.rf 10 31 σ) _ _ (by decide) (by decide)
                    refine wa_aload_n (i := 0) rfl rfl ?_
                    refine wa_getr ck_8 fl_8_15 ly_30 rf_30_1 ?_
                    refine wa_aload_n (i := 0) rfl rfl ?_
                    refine wa_geti ck_8 fl_8_164 ly_30 ?_
                    refine wa_rw (nxk_gi_si hs208 (by decide)) ?_
                    refine wa_aload_n (i := 0) rfl rfl ?_
                    refine wa_geti ck_8 fl_8_167 ly_30 ?_
                    refine wa_rw (nxk_gi_si hs208 (by decide)) ?_
                    refine wa_iload_n (i := 2) rfl rfl ?_
                    refine wa_Vv (d9 := d - 1) [.int _, .int _, .int _] [] (sp_X2_setToken G (d := d - 1) (by omega) s208 _ _ _) (rfl) rfl rfl (zr (by omega)) mk_X2_setToken ly_7 ml_8_185 (Nat.le_of_ble_eq_true rfl) (fun s209 hs209 => ?_)
                    obtain ⟨fs209, -⟩ := hs209
                    have Fs209 := Sm.tr Fs208 (Sm.wd fs209 (lo' := 10) (hi' := 31) (by decide) (by decide))
                    refine wa_aload_n (i := 0) rfl rfl ?_
                    refine wa_dup rfl ?_
                    refine wa_geti ck_8 fl_8_167 ly_30 ?_
                    refine wa_rw ((Sm.gi fs209 12 (Or.inr (by decide))).trans (nxk_gi_si hs208 (by decide))) ?_
                    refine wa_iconst (v := 1) (by decide) ?_
                    refine wa_iadd ?_
                    refine wa_top (fun v211 hv211 => ?_)
                    have tv211 := i_addT hv211
                    clear hv211
                    refine wa_puti ck_8 fl_8_167 ly_30 (fun s212 hs212 => ?_)
                    have Fs212 : Sm 10 31 σ s212 := by rw [hs212]; exact Sm.si Fs209 _ _ (by decide) (by decide)
                    refine wa_aload_n (i := 0) rfl rfl ?_
                    refine wa_Vv (d9 := d - 1) [] [] (sp_X8_next G (d := d - 1) (by omega) s212 ) (rfl) rfl rfl (zr (by omega)) mk_X8_next ly_30 ml_8_98 (Nat.le_of_ble_eq_true rfl) (fun s213 hs213 => ?_)
                    obtain ⟨fs213, -⟩ := hs213
                    have Fs213 := Sm.tr Fs212 (Sm.wd fs213 (lo' := 10) (hi' := 31) (by decide) (by decide))
                    refine wa_return (st := []) rfl rfl ?_
                    exact ⟨Fs213, trivial⟩
                  · refine wa_iload_n (i := 1) rfl rfl ?_
                    refine wa_bipush (v := 7) (by decide) ?_
                    refine wa_icmp_ne o_X8_accept_97 (by decide) (fun h215 => ?_) (fun h215 => ?_)
                    · refine wa_iconst (v := 0) (by decide) ?_
                      refine wa_iadd ?_
                      refine wa_top (fun v216 hv216 => ?_)
                      have tv216 := i_addT hv216
                      clear hv216
                      refine wa_puti ck_8 fl_8_173 ly_30 (fun s217 hs217 => ?_)
                      have Fs217 : Sm 10 31 σ s217 := by rw [hs217]; exact Sm.si (Sm.rf 10 31 σ) _ _ (by decide) (by decide)
                      refine wa_aload_n (i := 0) rfl rfl ?_
                      refine wa_getr ck_8 fl_8_15 ly_30 rf_30_1 ?_
                      refine wa_aload_n (i := 0) rfl rfl ?_
                      refine wa_geti ck_8 fl_8_164 ly_30 ?_
                      refine wa_rw (nxk_gi_si hs217 (by decide)) ?_
                      refine wa_aload_n (i := 0) rfl rfl ?_
                      refine wa_geti ck_8 fl_8_167 ly_30 ?_
                      refine wa_rw (nxk_gi_si hs217 (by decide)) ?_
                      refine wa_iload_n (i := 2) rfl rfl ?_
                      refine wa_Vv (d9 := d - 1) [.int _, .int _, .int _] [] (sp_X2_setToken G (d := d - 1) (by omega) s217 _ _ _) (rfl) rfl rfl (zr (by omega)) mk_X2_setToken ly_7 ml_8_185 (Nat.le_of_ble_eq_true rfl) (fun s218 hs218 => ?_)
                      obtain ⟨fs218, -⟩ := hs218
                      have Fs218 := Sm.tr Fs217 (Sm.wd fs218 (lo' := 10) (hi' := 31) (by decide) (by decide))
                      refine wa_aload_n (i := 0) rfl rfl ?_
                      refine wa_dup rfl ?_
                      refine wa_geti ck_8 fl_8_167 ly_30 ?_
                      refine wa_rw ((Sm.gi fs218 12 (Or.inr (by decide))).trans (nxk_gi_si hs217 (by decide))) ?_
                      refine wa_iconst (v := 1) (by decide) ?_
                      refine wa_iadd ?_
                      refine wa_top (fun v220 hv220 => ?_)
                      have tv220 := i_addT hv220
                      clear hv220
                      refine wa_puti ck_8 fl_8_167 ly_30 (fun s221 hs221 => ?_)
                      have Fs221 : Sm 10 31 σ s221 := by rw [hs221]; exact Sm.si Fs218 _ _ (by decide) (by decide)
                      refine wa_aload_n (i := 0) rfl rfl ?_
                      refine wa_Vv (d9 := d - 1) [] [] (sp_X8_next G (d := d - 1) (by omega) s221 ) (rfl) rfl rfl (zr (by omega)) mk_X8_next ly_30 ml_8_98 (Nat.le_of_ble_eq_true rfl) (fun s222 hs222 => ?_)
                      obtain ⟨fs222, -⟩ := hs222
                      have Fs222 := Sm.tr Fs221 (Sm.wd fs222 (lo' := 10) (hi' := 31) (by decide) (by decide))
                      refine wa_return (st := []) rfl rfl ?_
                      exact ⟨Fs222, trivial⟩
                    · refine wa_iconst (v := (-1)) (by decide) ?_
                      refine wa_goto o_X8_accept_98 (by decide) ?_
                      refine wa_iadd ?_
                      refine wa_top (fun v224 hv224 => ?_)
                      have tv224 := i_addT hv224
                      clear hv224
                      refine wa_puti ck_8 fl_8_173 ly_30 (fun s225 hs225 => ?_)
                      have Fs225 : Sm 10 31 σ s225 := by rw [hs225]; exact Sm.si (Sm.rf 10 31 σ) _ _ (by decide) (by decide)
                      refine wa_aload_n (i := 0) rfl rfl ?_
                      refine wa_getr ck_8 fl_8_15 ly_30 rf_30_1 ?_
                      refine wa_aload_n (i := 0) rfl rfl ?_
                      refine wa_geti ck_8 fl_8_164 ly_30 ?_
                      refine wa_rw (nxk_gi_si hs225 (by decide)) ?_
                      refine wa_aload_n (i := 0) rfl rfl ?_
                      refine wa_geti ck_8 fl_8_167 ly_30 ?_
                      refine wa_rw (nxk_gi_si hs225 (by decide)) ?_
                      refine wa_iload_n (i := 2) rfl rfl ?_
                      refine wa_Vv (d9 := d - 1) [.int _, .int _, .int _] [] (sp_X2_setToken G (d := d - 1) (by omega) s225 _ _ _) (rfl) rfl rfl (zr (by omega)) mk_X2_setToken ly_7 ml_8_185 (Nat.le_of_ble_eq_true rfl) (fun s226 hs226 => ?_)
                      obtain ⟨fs226, -⟩ := hs226
                      have Fs226 := Sm.tr Fs225 (Sm.wd fs226 (lo' := 10) (hi' := 31) (by decide) (by decide))
                      refine wa_aload_n (i := 0) rfl rfl ?_
                      refine wa_dup rfl ?_
                      refine wa_geti ck_8 fl_8_167 ly_30 ?_
                      refine wa_rw ((Sm.gi fs226 12 (Or.inr (by decide))).trans (nxk_gi_si hs225 (by decide))) ?_
                      refine wa_iconst (v := 1) (by decide) ?_
                      refine wa_iadd ?_
                      refine wa_top (fun v228 hv228 => ?_)
                      have tv228 := i_addT hv228
                      clear hv228
                      refine wa_puti ck_8 fl_8_167 ly_30 (fun s229 hs229 => ?_)
                      have Fs229 : Sm 10 31 σ s229 := by rw [hs229]; exact Sm.si Fs226 _ _ (by decide) (by decide)
                      refine wa_aload_n (i := 0) rfl rfl ?_
                      refine wa_Vv (d9 := d - 1) [] [] (sp_X8_next G (d := d - 1) (by omega) s229 ) (rfl) rfl rfl (zr (by omega)) mk_X8_next ly_30 ml_8_98 (Nat.le_of_ble_eq_true rfl) (fun s230 hs230 => ?_)
                      obtain ⟨fs230, -⟩ := hs230
                      have Fs230 := Sm.tr Fs229 (Sm.wd fs230 (lo' := 10) (hi' := 31) (by decide) (by decide))
                      refine wa_return (st := []) rfl rfl ?_
                      exact ⟨Fs230, trivial⟩
                · replace h205 := bI_t (b := false) (rfl) h205
                  refine wa_iconst (v := 1) (by decide) ?_
                  refine wa_goto o_X8_accept_98 (by decide) ?_
                  refine wa_iadd ?_
                  refine wa_top (fun v232 hv232 => ?_)
                  have tv232 := i_addT hv232
                  clear hv232
                  refine wa_puti ck_8 fl_8_173 ly_30 (fun s233 hs233 => ?_)
                  have Fs233 : Sm 10 31 σ s233 := by rw [hs233]; exact Sm.si (Sm.rf 10 31 σ) _ _ (by decide) (by decide)
                  refine wa_aload_n (i := 0) rfl rfl ?_
                  refine wa_getr ck_8 fl_8_15 ly_30 rf_30_1 ?_
                  refine wa_aload_n (i := 0) rfl rfl ?_
                  refine wa_geti ck_8 fl_8_164 ly_30 ?_
                  refine wa_rw (nxk_gi_si hs233 (by decide)) ?_
                  refine wa_aload_n (i := 0) rfl rfl ?_
                  refine wa_geti ck_8 fl_8_167 ly_30 ?_
                  refine wa_rw (nxk_gi_si hs233 (by decide)) ?_
                  refine wa_iload_n (i := 2) rfl rfl ?_
                  refine wa_Vv (d9 := d - 1) [.int _, .int _, .int _] [] (sp_X2_setToken G (d := d - 1) (by omega) s233 _ _ _) (rfl) rfl rfl (zr (by omega)) mk_X2_setToken ly_7 ml_8_185 (Nat.le_of_ble_eq_true rfl) (fun s234 hs234 => ?_)
                  obtain ⟨fs234, -⟩ := hs234
                  have Fs234 := Sm.tr Fs233 (Sm.wd fs234 (lo' := 10) (hi' := 31) (by decide) (by decide))
                  refine wa_aload_n (i := 0) rfl rfl ?_
                  refine wa_dup rfl ?_
                  refine wa_geti ck_8 fl_8_167 ly_30 ?_
                  refine wa_rw ((Sm.gi fs234 12 (Or.inr (by decide))).trans (nxk_gi_si hs233 (by decide))) ?_
                  refine wa_iconst (v := 1) (by decide) ?_
                  refine wa_iadd ?_
                  refine wa_top (fun v236 hv236 => ?_)
                  have tv236 := i_addT hv236
                  clear hv236
                  refine wa_puti ck_8 fl_8_167 ly_30 (fun s237 hs237 => ?_)
                  have Fs237 : Sm 10 31 σ s237 := by rw [hs237]; exact Sm.si Fs234 _ _ (by decide) (by decide)
                  refine wa_aload_n (i := 0) rfl rfl ?_
                  refine wa_Vv (d9 := d - 1) [] [] (sp_X8_next G (d := d - 1) (by omega) s237 ) (rfl) rfl rfl (zr (by omega)) mk_X8_next ly_30 ml_8_98 (Nat.le_of_ble_eq_true rfl) (fun s238 hs238 => ?_)
                  obtain ⟨fs238, -⟩ := hs238
                  have Fs238 := Sm.tr Fs237 (Sm.wd fs238 (lo' := 10) (hi' := 31) (by decide) (by decide))
                  refine wa_return (st := []) rfl rfl ?_
                  exact ⟨Fs238, trivial⟩
              · refine wa_aload_n (i := 0) rfl rfl ?_
                refine wa_iconst (v := 5) (by decide) ?_
                refine wa_Vv (d9 := d - 1) [.int _] [] (sp_X8_fail G (d := d - 1) (by omega) σ _) (rfl) rfl rfl (zr (by omega)) mk_X8_fail ly_30 ml_8_95 (Nat.le_of_ble_eq_true rfl) (fun s240 hs240 => ?_)
                obtain ⟨fs240, -⟩ := hs240
                have Fs240 := Sm.tr (Sm.rf 10 31 σ) (Sm.wd fs240 (lo' := 10) (hi' := 31) (by decide) (by decide))
                refine wa_goto o_X8_accept_132 (by decide) ?_
                refine wa_return (st := []) rfl rfl ?_
                exact ⟨Fs240, trivial⟩
        · refine wa_aload_n (i := 0) rfl rfl ?_
          refine wa_iconst (v := 2) (by decide) ?_
          refine wa_Vv (d9 := d - 1) [.int _] [] (sp_X8_fail G (d := d - 1) (by omega) σ _) (rfl) rfl rfl (zr (by omega)) mk_X8_fail ly_30 ml_8_95 (Nat.le_of_ble_eq_true rfl) (fun s242 hs242 => ?_)
          obtain ⟨fs242, -⟩ := hs242
          have Fs242 := Sm.tr (Sm.rf 10 31 σ) (Sm.wd fs242 (lo' := 10) (hi' := 31) (by decide) (by decide))
          refine wa_goto o_X8_accept_132 (by decide) ?_
          refine wa_return (st := []) rfl rfl ?_
          exact ⟨Fs242, trivial⟩
      · refine wa_iconst (v := 1) (by decide) ?_
        refine wa_goto o_X8_accept_22 (by decide) ?_
        refine wa_istore_nD (lv' := [(3, .int (bI true)), (0, .ref 30), (1, .int a0), (2, .int a1)]) (i := 3) rfl (by decide) rfl ?_
        refine wa_aload_n (i := 0) rfl rfl ?_
        refine wa_geti ck_8 fl_8_39 ly_30 ?_
        refine wa_iload_n (i := 1) rfl rfl ?_
        refine wa_icmp_eq o_X8_accept_39 (by decide) (fun h244 => ?_) (fun h244 => ?_)
        · refine wa_aload_n (i := 0) rfl rfl ?_
          refine wa_geti ck_8 fl_8_167 ly_30 ?_
          refine wa_bipush (v := 120) (by decide) ?_
          refine wa_icmp_ge o_X8_accept_61 (by decide) (fun h245 => ?_) (fun h245 => ?_)
          · refine wa_aload_n (i := 0) rfl rfl ?_
            refine wa_iconst (v := 5) (by decide) ?_
            refine wa_Vv (d9 := d - 1) [.int _] [] (sp_X8_fail G (d := d - 1) (by omega) σ _) (rfl) rfl rfl (zr (by omega)) mk_X8_fail ly_30 ml_8_95 (Nat.le_of_ble_eq_true rfl) (fun s246 hs246 => ?_)
            obtain ⟨fs246, -⟩ := hs246
            have Fs246 := Sm.tr (Sm.rf 10 31 σ) (Sm.wd fs246 (lo' := 10) (hi' := 31) (by decide) (by decide))
            refine wa_goto o_X8_accept_132 (by decide) ?_
            refine wa_return (st := []) rfl rfl ?_
            exact ⟨Fs246, trivial⟩
          · have mh245 := nle_mx h245
            refine wa_iload_n (i := 3) rfl rfl ?_
            refine wa_if_eq o_X8_accept_69 (by decide) (fun h248 => ?_) (fun h248 => ?_)
            · replace h248 := bI_f (b := true) (rfl) h248
              refine wa_aload_n (i := 0) rfl rfl ?_
              refine wa_dup rfl ?_
              refine wa_geti ck_8 fl_8_173 ly_30 ?_
              refine wa_iload_n (i := 3) rfl rfl ?_
              refine wa_if_eq o_X8_accept_82 (by decide) (fun h249 => ?_) (fun h249 => ?_)
              · replace h249 := bI_f (b := true) (rfl) h249
                refine wa_iload_n (i := 1) rfl rfl ?_
                refine wa_iconst (v := 5) (by decide) ?_
                refine wa_icmp_eq o_X8_accept_93 (by decide) (fun h250 => ?_) (fun h250 => ?_)
                · refine wa_iconst (v := (-1)) (by decide) ?_
                  refine wa_goto o_X8_accept_98 (by decide) ?_
                  refine wa_iadd ?_
                  refine wa_top (fun v251 hv251 => ?_)
                  have tv251 := i_addT hv251
                  clear hv251
                  refine wa_puti ck_8 fl_8_173 ly_30 (fun s252 hs252 => ?_)
                  have Fs252 : Sm 10 31 σ s252 := by rw [hs252]; exact Sm.si (Sm.rf 10 31 σ) _ _ (by decide) (by decide)
                  refine wa_aload_n (i := 0) rfl rfl ?_
                  refine wa_getr ck_8 fl_8_15 ly_30 rf_30_1 ?_
                  refine wa_aload_n (i := 0) rfl rfl ?_
                  refine wa_geti ck_8 fl_8_164 ly_30 ?_
                  refine wa_rw (nxk_gi_si hs252 (by decide)) ?_
                  refine wa_aload_n (i := 0) rfl rfl ?_
                  refine wa_geti ck_8 fl_8_167 ly_30 ?_
                  refine wa_rw (nxk_gi_si hs252 (by decide)) ?_
                  refine wa_iload_n (i := 2) rfl rfl ?_
                  refine wa_Vv (d9 := d - 1) [.int _, .int _, .int _] [] (sp_X2_setToken G (d := d - 1) (by omega) s252 _ _ _) (rfl) rfl rfl (zr (by omega)) mk_X2_setToken ly_7 ml_8_185 (Nat.le_of_ble_eq_true rfl) (fun s253 hs253 => ?_)
                  obtain ⟨fs253, -⟩ := hs253
                  have Fs253 := Sm.tr Fs252 (Sm.wd fs253 (lo' := 10) (hi' := 31) (by decide) (by decide))
                  refine wa_aload_n (i := 0) rfl rfl ?_
                  refine wa_dup rfl ?_
                  refine wa_geti ck_8 fl_8_167 ly_30 ?_
                  refine wa_rw ((Sm.gi fs253 12 (Or.inr (by decide))).trans (nxk_gi_si hs252 (by decide))) ?_
                  refine wa_iconst (v := 1) (by decide) ?_
                  refine wa_iadd ?_
                  refine wa_top (fun v255 hv255 => ?_)
                  have tv255 := i_addT hv255
                  clear hv255
                  refine wa_puti ck_8 fl_8_167 ly_30 (fun s256 hs256 => ?_)
                  have Fs256 : Sm 10 31 σ s256 := by rw [hs256]; exact Sm.si Fs253 _ _ (by decide) (by decide)
                  refine wa_aload_n (i := 0) rfl rfl ?_
                  refine wa_Vv (d9 := d - 1) [] [] (sp_X8_next G (d := d - 1) (by omega) s256 ) (rfl) rfl rfl (zr (by omega)) mk_X8_next ly_30 ml_8_98 (Nat.le_of_ble_eq_true rfl) (fun s257 hs257 => ?_)
                  obtain ⟨fs257, -⟩ := hs257
                  have Fs257 := Sm.tr Fs256 (Sm.wd fs257 (lo' := 10) (hi' := 31) (by decide) (by decide))
                  refine wa_return (st := []) rfl rfl ?_
                  exact ⟨Fs257, trivial⟩
                · refine wa_iload_n (i := 1) rfl rfl ?_
                  refine wa_bipush (v := 7) (by decide) ?_
                  refine wa_icmp_ne o_X8_accept_97 (by decide) (fun h259 => ?_) (fun h259 => ?_)
                  · refine wa_iconst (v := 0) (by decide) ?_
                    refine wa_iadd ?_
                    refine wa_top (fun v260 hv260 => ?_)
                    have tv260 := i_addT hv260
                    clear hv260
                    refine wa_puti ck_8 fl_8_173 ly_30 (fun s261 hs261 => ?_)
                    have Fs261 : Sm 10 31 σ s261 := by rw [hs261]; exact Sm.si (Sm.rf 10 31 σ) _ _ (by decide) (by decide)
                    refine wa_aload_n (i := 0) rfl rfl ?_
                    refine wa_getr ck_8 fl_8_15 ly_30 rf_30_1 ?_
                    refine wa_aload_n (i := 0) rfl rfl ?_
                    refine wa_geti ck_8 fl_8_164 ly_30 ?_
                    refine wa_rw (nxk_gi_si hs261 (by decide)) ?_
                    refine wa_aload_n (i := 0) rfl rfl ?_
                    refine wa_geti ck_8 fl_8_167 ly_30 ?_
                    refine wa_rw (nxk_gi_si hs261 (by decide)) ?_
                    refine wa_iload_n (i := 2) rfl rfl ?_
                    refine wa_Vv (d9 := d - 1) [.int _, .int _, .int _] [] (sp_X2_setToken G (d := d - 1) (by omega) s261 _ _ _) (rfl) rfl rfl (zr (by omega)) mk_X2_setToken ly_7 ml_8_185 (Nat.le_of_ble_eq_true rfl) (fun s262 hs262 => ?_)
                    obtain ⟨fs262, -⟩ := hs262
                    have Fs262 := Sm.tr Fs261 (Sm.wd fs262 (lo' := 10) (hi' := 31) (by decide) (by decide))
                    refine wa_aload_n (i := 0) rfl rfl ?_
                    refine wa_dup rfl ?_
                    refine wa_geti ck_8 fl_8_167 ly_30 ?_
                    refine wa_rw ((Sm.gi fs262 12 (Or.inr (by decide))).trans (nxk_gi_si hs261 (by decide))) ?_
                    refine wa_iconst (v := 1) (by decide) ?_
                    refine wa_iadd ?_
                    refine wa_top (fun v264 hv264 => ?_)
                    have tv264 := i_addT hv264
                    clear hv264
                    refine wa_puti ck_8 fl_8_167 ly_30 (fun s265 hs265 => ?_)
                    have Fs265 : Sm 10 31 σ s265 := by rw [hs265]; exact Sm.si Fs262 _ _ (by decide) (by decide)
                    refine wa_aload_n (i := 0) rfl rfl ?_
                    refine wa_Vv (d9 := d - 1) [] [] (sp_X8_next G (d := d - 1) (by omega) s265 ) (rfl) rfl rfl (zr (by omega)) mk_X8_next ly_30 ml_8_98 (Nat.le_of_ble_eq_true rfl) (fun s266 hs266 => ?_)
                    obtain ⟨fs266, -⟩ := hs266
                    have Fs266 := Sm.tr Fs265 (Sm.wd fs266 (lo' := 10) (hi' := 31) (by decide) (by decide))
                    refine wa_return (st := []) rfl rfl ?_
                    exact ⟨Fs266, trivial⟩
                  · refine wa_iconst (v := (-1)) (by decide) ?_
                    refine wa_goto o_X8_accept_98 (by decide) ?_
                    refine wa_iadd ?_
                    refine wa_top (fun v268 hv268 => ?_)
                    have tv268 := i_addT hv268
                    clear hv268
                    refine wa_puti ck_8 fl_8_173 ly_30 (fun s269 hs269 => ?_)
                    have Fs269 : Sm 10 31 σ s269 := by rw [hs269]; exact Sm.si (Sm.rf 10 31 σ) _ _ (by decide) (by decide)
                    refine wa_aload_n (i := 0) rfl rfl ?_
                    refine wa_getr ck_8 fl_8_15 ly_30 rf_30_1 ?_
                    refine wa_aload_n (i := 0) rfl rfl ?_
                    refine wa_geti ck_8 fl_8_164 ly_30 ?_
                    refine wa_rw (nxk_gi_si hs269 (by decide)) ?_
                    refine wa_aload_n (i := 0) rfl rfl ?_
                    refine wa_geti ck_8 fl_8_167 ly_30 ?_
                    refine wa_rw (nxk_gi_si hs269 (by decide)) ?_
                    refine wa_iload_n (i := 2) rfl rfl ?_
                    refine wa_Vv (d9 := d - 1) [.int _, .int _, .int _] [] (sp_X2_setToken G (d := d - 1) (by omega) s269 _ _ _) (rfl) rfl rfl (zr (by omega)) mk_X2_setToken ly_7 ml_8_185 (Nat.le_of_ble_eq_true rfl) (fun s270 hs270 => ?_)
                    obtain ⟨fs270, -⟩ := hs270
                    have Fs270 := Sm.tr Fs269 (Sm.wd fs270 (lo' := 10) (hi' := 31) (by decide) (by decide))
                    refine wa_aload_n (i := 0) rfl rfl ?_
                    refine wa_dup rfl ?_
                    refine wa_geti ck_8 fl_8_167 ly_30 ?_
                    refine wa_rw ((Sm.gi fs270 12 (Or.inr (by decide))).trans (nxk_gi_si hs269 (by decide))) ?_
                    refine wa_iconst (v := 1) (by decide) ?_
                    refine wa_iadd ?_
                    refine wa_top (fun v272 hv272 => ?_)
                    have tv272 := i_addT hv272
                    clear hv272
                    refine wa_puti ck_8 fl_8_167 ly_30 (fun s273 hs273 => ?_)
                    have Fs273 : Sm 10 31 σ s273 := by rw [hs273]; exact Sm.si Fs270 _ _ (by decide) (by decide)
                    refine wa_aload_n (i := 0) rfl rfl ?_
                    refine wa_Vv (d9 := d - 1) [] [] (sp_X8_next G (d := d - 1) (by omega) s273 ) (rfl) rfl rfl (zr (by omega)) mk_X8_next ly_30 ml_8_98 (Nat.le_of_ble_eq_true rfl) (fun s274 hs274 => ?_)
                    obtain ⟨fs274, -⟩ := hs274
                    have Fs274 := Sm.tr Fs273 (Sm.wd fs274 (lo' := 10) (hi' := 31) (by decide) (by decide))
                    refine wa_return (st := []) rfl rfl ?_
                    exact ⟨Fs274, trivial⟩
              · replace h249 := bI_t (b := true) (rfl) h249
                refine wa_iconst (v := 1) (by decide) ?_
                refine wa_goto o_X8_accept_98 (by decide) ?_
                refine wa_iadd ?_
                refine wa_top (fun v276 hv276 => ?_)
                have tv276 := i_addT hv276
                clear hv276
                refine wa_puti ck_8 fl_8_173 ly_30 (fun s277 hs277 => ?_)
                have Fs277 : Sm 10 31 σ s277 := by rw [hs277]; exact Sm.si (Sm.rf 10 31 σ) _ _ (by decide) (by decide)
                refine wa_aload_n (i := 0) rfl rfl ?_
                refine wa_getr ck_8 fl_8_15 ly_30 rf_30_1 ?_
                refine wa_aload_n (i := 0) rfl rfl ?_
                refine wa_geti ck_8 fl_8_164 ly_30 ?_
                refine wa_rw (nxk_gi_si hs277 (by decide)) ?_
                refine wa_aload_n (i := 0) rfl rfl ?_
                refine wa_geti ck_8 fl_8_167 ly_30 ?_
                refine wa_rw (nxk_gi_si hs277 (by decide)) ?_
                refine wa_iload_n (i := 2) rfl rfl ?_
                refine wa_Vv (d9 := d - 1) [.int _, .int _, .int _] [] (sp_X2_setToken G (d := d - 1) (by omega) s277 _ _ _) (rfl) rfl rfl (zr (by omega)) mk_X2_setToken ly_7 ml_8_185 (Nat.le_of_ble_eq_true rfl) (fun s278 hs278 => ?_)
                obtain ⟨fs278, -⟩ := hs278
                have Fs278 := Sm.tr Fs277 (Sm.wd fs278 (lo' := 10) (hi' := 31) (by decide) (by decide))
                refine wa_aload_n (i := 0) rfl rfl ?_
                refine wa_dup rfl ?_
                refine wa_geti ck_8 fl_8_167 ly_30 ?_
                refine wa_rw ((Sm.gi fs278 12 (Or.inr (by decide))).trans (nxk_gi_si hs277 (by decide))) ?_
                refine wa_iconst (v := 1) (by decide) ?_
                refine wa_iadd ?_
                refine wa_top (fun v280 hv280 => ?_)
                have tv280 := i_addT hv280
                clear hv280
                refine wa_puti ck_8 fl_8_167 ly_30 (fun s281 hs281 => ?_)
                have Fs281 : Sm 10 31 σ s281 := by rw [hs281]; exact Sm.si Fs278 _ _ (by decide) (by decide)
                refine wa_aload_n (i := 0) rfl rfl ?_
                refine wa_Vv (d9 := d - 1) [] [] (sp_X8_next G (d := d - 1) (by omega) s281 ) (rfl) rfl rfl (zr (by omega)) mk_X8_next ly_30 ml_8_98 (Nat.le_of_ble_eq_true rfl) (fun s282 hs282 => ?_)
                obtain ⟨fs282, -⟩ := hs282
                have Fs282 := Sm.tr Fs281 (Sm.wd fs282 (lo' := 10) (hi' := 31) (by decide) (by decide))
                refine wa_return (st := []) rfl rfl ?_
                exact ⟨Fs282, trivial⟩
            · replace h248 := bI_t (b := true) (rfl) h248
              refine wa_aload_n (i := 0) rfl rfl ?_
              refine wa_geti ck_8 fl_8_173 ly_30 ?_
              refine wa_bipush (v := 12) (by decide) ?_
              refine wa_icmp_lt o_X8_accept_69 (by decide) (fun h284 => ?_) (fun h284 => ?_)
              · refine wa_aload_n (i := 0) rfl rfl ?_
                refine wa_dup rfl ?_
                refine wa_geti ck_8 fl_8_173 ly_30 ?_
                refine wa_iload_n (i := 3) rfl rfl ?_
                refine wa_if_eq o_X8_accept_82 (by decide) (fun h285 => ?_) (fun h285 => ?_)
                · replace h285 := bI_f (b := true) (rfl) h285
                  refine wa_iload_n (i := 1) rfl rfl ?_
                  refine wa_iconst (v := 5) (by decide) ?_
                  refine wa_icmp_eq o_X8_accept_93 (by decide) (fun h286 => ?_) (fun h286 => ?_)
                  · refine wa_iconst (v := (-1)) (by decide) ?_
                    refine wa_goto o_X8_accept_98 (by decide) ?_
                    refine wa_iadd ?_
                    refine wa_top (fun v287 hv287 => ?_)
                    have tv287 := i_addT hv287
                    clear hv287
                    refine wa_puti ck_8 fl_8_173 ly_30 (fun s288 hs288 => ?_)
                    have Fs288 : Sm 10 31 σ s288 := by rw [hs288]; exact Sm.si (Sm.rf 10 31 σ) _ _ (by decide) (by decide)
                    refine wa_aload_n (i := 0) rfl rfl ?_
                    refine wa_getr ck_8 fl_8_15 ly_30 rf_30_1 ?_
                    refine wa_aload_n (i := 0) rfl rfl ?_
                    refine wa_geti ck_8 fl_8_164 ly_30 ?_
                    refine wa_rw (nxk_gi_si hs288 (by decide)) ?_
                    refine wa_aload_n (i := 0) rfl rfl ?_
                    refine wa_geti ck_8 fl_8_167 ly_30 ?_
                    refine wa_rw (nxk_gi_si hs288 (by decide)) ?_
                    refine wa_iload_n (i := 2) rfl rfl ?_
                    refine wa_Vv (d9 := d - 1) [.int _, .int _, .int _] [] (sp_X2_setToken G (d := d - 1) (by omega) s288 _ _ _) (rfl) rfl rfl (zr (by omega)) mk_X2_setToken ly_7 ml_8_185 (Nat.le_of_ble_eq_true rfl) (fun s289 hs289 => ?_)
                    obtain ⟨fs289, -⟩ := hs289
                    have Fs289 := Sm.tr Fs288 (Sm.wd fs289 (lo' := 10) (hi' := 31) (by decide) (by decide))
                    refine wa_aload_n (i := 0) rfl rfl ?_
                    refine wa_dup rfl ?_
                    refine wa_geti ck_8 fl_8_167 ly_30 ?_
                    refine wa_rw ((Sm.gi fs289 12 (Or.inr (by decide))).trans (nxk_gi_si hs288 (by decide))) ?_
                    refine wa_iconst (v := 1) (by decide) ?_
                    refine wa_iadd ?_
                    refine wa_top (fun v291 hv291 => ?_)
                    have tv291 := i_addT hv291
                    clear hv291
                    refine wa_puti ck_8 fl_8_167 ly_30 (fun s292 hs292 => ?_)
                    have Fs292 : Sm 10 31 σ s292 := by rw [hs292]; exact Sm.si Fs289 _ _ (by decide) (by decide)
                    refine wa_aload_n (i := 0) rfl rfl ?_
                    refine wa_Vv (d9 := d - 1) [] [] (sp_X8_next G (d := d - 1) (by omega) s292 ) (rfl) rfl rfl (zr (by omega)) mk_X8_next ly_30 ml_8_98 (Nat.le_of_ble_eq_true rfl) (fun s293 hs293 => ?_)
                    obtain ⟨fs293, -⟩ := hs293
                    have Fs293 := Sm.tr Fs292 (Sm.wd fs293 (lo' := 10) (hi' := 31) (by decide) (by decide))
                    refine wa_return (st := []) rfl rfl ?_
                    exact ⟨Fs293, trivial⟩
                  · refine wa_iload_n (i := 1) rfl rfl ?_
                    refine wa_bipush (v := 7) (by decide) ?_
                    refine wa_icmp_ne o_X8_accept_97 (by decide) (fun h295 => ?_) (fun h295 => ?_)
                    · refine wa_iconst (v := 0) (by decide) ?_
                      refine wa_iadd ?_
                      refine wa_top (fun v296 hv296 => ?_)
                      have tv296 := i_addT hv296
                      clear hv296
                      refine wa_puti ck_8 fl_8_173 ly_30 (fun s297 hs297 => ?_)
                      have Fs297 : Sm 10 31 σ s297 := by rw [hs297]; exact Sm.si (Sm.rf 10 31 σ) _ _ (by decide) (by decide)
                      refine wa_aload_n (i := 0) rfl rfl ?_
                      refine wa_getr ck_8 fl_8_15 ly_30 rf_30_1 ?_
                      refine wa_aload_n (i := 0) rfl rfl ?_
                      refine wa_geti ck_8 fl_8_164 ly_30 ?_
                      refine wa_rw (nxk_gi_si hs297 (by decide)) ?_
                      refine wa_aload_n (i := 0) rfl rfl ?_
                      refine wa_geti ck_8 fl_8_167 ly_30 ?_
                      refine wa_rw (nxk_gi_si hs297 (by decide)) ?_
                      refine wa_iload_n (i := 2) rfl rfl ?_
                      refine wa_Vv (d9 := d - 1) [.int _, .int _, .int _] [] (sp_X2_setToken G (d := d - 1) (by omega) s297 _ _ _) (rfl) rfl rfl (zr (by omega)) mk_X2_setToken ly_7 ml_8_185 (Nat.le_of_ble_eq_true rfl) (fun s298 hs298 => ?_)
                      obtain ⟨fs298, -⟩ := hs298
                      have Fs298 := Sm.tr Fs297 (Sm.wd fs298 (lo' := 10) (hi' := 31) (by decide) (by decide))
                      refine wa_aload_n (i := 0) rfl rfl ?_
                      refine wa_dup rfl ?_
                      refine wa_geti ck_8 fl_8_167 ly_30 ?_
                      refine wa_rw ((Sm.gi fs298 12 (Or.inr (by decide))).trans (nxk_gi_si hs297 (by decide))) ?_
                      refine wa_iconst (v := 1) (by decide) ?_
                      refine wa_iadd ?_
                      refine wa_top (fun v300 hv300 => ?_)
                      have tv300 := i_addT hv300
                      clear hv300
                      refine wa_puti ck_8 fl_8_167 ly_30 (fun s301 hs301 => ?_)
                      have Fs301 : Sm 10 31 σ s301 := by rw [hs301]; exact Sm.si Fs298 _ _ (by decide) (by decide)
                      refine wa_aload_n (i := 0) rfl rfl ?_
                      refine wa_Vv (d9 := d - 1) [] [] (sp_X8_next G (d := d - 1) (by omega) s301 ) (rfl) rfl rfl (zr (by omega)) mk_X8_next ly_30 ml_8_98 (Nat.le_of_ble_eq_true rfl) (fun s302 hs302 => ?_)
                      obtain ⟨fs302, -⟩ := hs302
                      have Fs302 := Sm.tr Fs301 (Sm.wd fs302 (lo' := 10) (hi' := 31) (by decide) (by decide))
                      refine wa_return (st := []) rfl rfl ?_
                      exact ⟨Fs302, trivial⟩
                    · refine wa_iconst (v := (-1)) (by decide) ?_
                      refine wa_goto o_X8_accept_98 (by decide) ?_
                      refine wa_iadd ?_
                      refine wa_top (fun v304 hv304 => ?_)
                      have tv304 := i_addT hv304
                      clear hv304
                      refine wa_puti ck_8 fl_8_173 ly_30 (fun s305 hs305 => ?_)
                      have Fs305 : Sm 10 31 σ s305 := by rw [hs305]; exact Sm.si (Sm.rf 10 31 σ) _ _ (by decide) (by decide)
                      refine wa_aload_n (i := 0) rfl rfl ?_
                      refine wa_getr ck_8 fl_8_15 ly_30 rf_30_1 ?_
                      refine wa_aload_n (i := 0) rfl rfl ?_
                      refine wa_geti ck_8 fl_8_164 ly_30 ?_
                      refine wa_rw (nxk_gi_si hs305 (by decide)) ?_
                      refine wa_aload_n (i := 0) rfl rfl ?_
                      refine wa_geti ck_8 fl_8_167 ly_30 ?_
                      refine wa_rw (nxk_gi_si hs305 (by decide)) ?_
                      refine wa_iload_n (i := 2) rfl rfl ?_
                      refine wa_Vv (d9 := d - 1) [.int _, .int _, .int _] [] (sp_X2_setToken G (d := d - 1) (by omega) s305 _ _ _) (rfl) rfl rfl (zr (by omega)) mk_X2_setToken ly_7 ml_8_185 (Nat.le_of_ble_eq_true rfl) (fun s306 hs306 => ?_)
                      obtain ⟨fs306, -⟩ := hs306
                      have Fs306 := Sm.tr Fs305 (Sm.wd fs306 (lo' := 10) (hi' := 31) (by decide) (by decide))
                      refine wa_aload_n (i := 0) rfl rfl ?_
                      refine wa_dup rfl ?_
                      refine wa_geti ck_8 fl_8_167 ly_30 ?_
                      refine wa_rw ((Sm.gi fs306 12 (Or.inr (by decide))).trans (nxk_gi_si hs305 (by decide))) ?_
                      refine wa_iconst (v := 1) (by decide) ?_
                      refine wa_iadd ?_
                      refine wa_top (fun v308 hv308 => ?_)
                      have tv308 := i_addT hv308
                      clear hv308
                      refine wa_puti ck_8 fl_8_167 ly_30 (fun s309 hs309 => ?_)
                      have Fs309 : Sm 10 31 σ s309 := by rw [hs309]; exact Sm.si Fs306 _ _ (by decide) (by decide)
                      refine wa_aload_n (i := 0) rfl rfl ?_
                      refine wa_Vv (d9 := d - 1) [] [] (sp_X8_next G (d := d - 1) (by omega) s309 ) (rfl) rfl rfl (zr (by omega)) mk_X8_next ly_30 ml_8_98 (Nat.le_of_ble_eq_true rfl) (fun s310 hs310 => ?_)
                      obtain ⟨fs310, -⟩ := hs310
                      have Fs310 := Sm.tr Fs309 (Sm.wd fs310 (lo' := 10) (hi' := 31) (by decide) (by decide))
                      refine wa_return (st := []) rfl rfl ?_
                      exact ⟨Fs310, trivial⟩
                · replace h285 := bI_t (b := true) (rfl) h285
                  refine wa_iconst (v := 1) (by decide) ?_
                  refine wa_goto o_X8_accept_98 (by decide) ?_
                  refine wa_iadd ?_
                  refine wa_top (fun v312 hv312 => ?_)
                  have tv312 := i_addT hv312
                  clear hv312
                  refine wa_puti ck_8 fl_8_173 ly_30 (fun s313 hs313 => ?_)
                  have Fs313 : Sm 10 31 σ s313 := by rw [hs313]; exact Sm.si (Sm.rf 10 31 σ) _ _ (by decide) (by decide)
                  refine wa_aload_n (i := 0) rfl rfl ?_
                  refine wa_getr ck_8 fl_8_15 ly_30 rf_30_1 ?_
                  refine wa_aload_n (i := 0) rfl rfl ?_
                  refine wa_geti ck_8 fl_8_164 ly_30 ?_
                  refine wa_rw (nxk_gi_si hs313 (by decide)) ?_
                  refine wa_aload_n (i := 0) rfl rfl ?_
                  refine wa_geti ck_8 fl_8_167 ly_30 ?_
                  refine wa_rw (nxk_gi_si hs313 (by decide)) ?_
                  refine wa_iload_n (i := 2) rfl rfl ?_
                  refine wa_Vv (d9 := d - 1) [.int _, .int _, .int _] [] (sp_X2_setToken G (d := d - 1) (by omega) s313 _ _ _) (rfl) rfl rfl (zr (by omega)) mk_X2_setToken ly_7 ml_8_185 (Nat.le_of_ble_eq_true rfl) (fun s314 hs314 => ?_)
                  obtain ⟨fs314, -⟩ := hs314
                  have Fs314 := Sm.tr Fs313 (Sm.wd fs314 (lo' := 10) (hi' := 31) (by decide) (by decide))
                  refine wa_aload_n (i := 0) rfl rfl ?_
                  refine wa_dup rfl ?_
                  refine wa_geti ck_8 fl_8_167 ly_30 ?_
                  refine wa_rw ((Sm.gi fs314 12 (Or.inr (by decide))).trans (nxk_gi_si hs313 (by decide))) ?_
                  refine wa_iconst (v := 1) (by decide) ?_
                  refine wa_iadd ?_
                  refine wa_top (fun v316 hv316 => ?_)
                  have tv316 := i_addT hv316
                  clear hv316
                  refine wa_puti ck_8 fl_8_167 ly_30 (fun s317 hs317 => ?_)
                  have Fs317 : Sm 10 31 σ s317 := by rw [hs317]; exact Sm.si Fs314 _ _ (by decide) (by decide)
                  refine wa_aload_n (i := 0) rfl rfl ?_
                  refine wa_Vv (d9 := d - 1) [] [] (sp_X8_next G (d := d - 1) (by omega) s317 ) (rfl) rfl rfl (zr (by omega)) mk_X8_next ly_30 ml_8_98 (Nat.le_of_ble_eq_true rfl) (fun s318 hs318 => ?_)
                  obtain ⟨fs318, -⟩ := hs318
                  have Fs318 := Sm.tr Fs317 (Sm.wd fs318 (lo' := 10) (hi' := 31) (by decide) (by decide))
                  refine wa_return (st := []) rfl rfl ?_
                  exact ⟨Fs318, trivial⟩
              · refine wa_aload_n (i := 0) rfl rfl ?_
                refine wa_iconst (v := 5) (by decide) ?_
                refine wa_Vv (d9 := d - 1) [.int _] [] (sp_X8_fail G (d := d - 1) (by omega) σ _) (rfl) rfl rfl (zr (by omega)) mk_X8_fail ly_30 ml_8_95 (Nat.le_of_ble_eq_true rfl) (fun s320 hs320 => ?_)
                obtain ⟨fs320, -⟩ := hs320
                have Fs320 := Sm.tr (Sm.rf 10 31 σ) (Sm.wd fs320 (lo' := 10) (hi' := 31) (by decide) (by decide))
                refine wa_goto o_X8_accept_132 (by decide) ?_
                refine wa_return (st := []) rfl rfl ?_
                exact ⟨Fs320, trivial⟩
        · refine wa_aload_n (i := 0) rfl rfl ?_
          refine wa_iconst (v := 2) (by decide) ?_
          refine wa_Vv (d9 := d - 1) [.int _] [] (sp_X8_fail G (d := d - 1) (by omega) σ _) (rfl) rfl rfl (zr (by omega)) mk_X8_fail ly_30 ml_8_95 (Nat.le_of_ble_eq_true rfl) (fun s322 hs322 => ?_)
          obtain ⟨fs322, -⟩ := hs322
          have Fs322 := Sm.tr (Sm.rf 10 31 σ) (Sm.wd fs322 (lo' := 10) (hi' := 31) (by decide) (by decide))
          refine wa_goto o_X8_accept_132 (by decide) ?_
          refine wa_return (st := []) rfl rfl ?_
          exact ⟨Fs322, trivial⟩
set_option maxHeartbeats 4000000 in
theorem sp_X8_step (G : kG9) {d : Nat} (hd : 1 ≤ d) (σ : St) (a0 : Int32) : Ct G M_X8_step d [.ref 30, .int a0] σ (fun r σ' => Sm 11 31 σ σ' ∧ True) := by
  refine wa_start (by decide) rfl (Nat.le_of_ble_eq_true rfl) (lv := [(0, .ref 30), (1, .int a0)]) rfl o_X8_step_0 rfl ?_
  have ua0 := Int32.toInt_lt a0
  have wa0 := Int32.le_toInt a0
  refine wa_aload_n (i := 0) rfl rfl ?_
  refine wa_getr ck_8 fl_8_15 ly_30 rf_30_1 ?_
  refine wa_aload_n (i := 0) rfl rfl ?_
  refine wa_geti ck_8 fl_8_164 ly_30 ?_
  refine wa_aload_n (i := 0) rfl rfl ?_
  refine wa_geti ck_8 fl_8_170 ly_30 ?_
  refine wa_iload_n (i := 1) rfl rfl ?_
  refine wa_Vv (d9 := d - 1) [.int _, .int _, .int _] [] (sp_X2_setStep G (d := d - 1) (by omega) σ _ _ _) (rfl) rfl rfl (zr (by omega)) mk_X2_setStep ly_7 ml_8_182 (Nat.le_of_ble_eq_true rfl) (fun s1 hs1 => ?_)
  obtain ⟨fs1, -⟩ := hs1
  have Fs1 := Sm.tr (Sm.rf 11 31 σ) (Sm.wd fs1 (lo' := 11) (hi' := 31) (by decide) (by decide))
  refine wa_aload_n (i := 0) rfl rfl ?_
  refine wa_dup rfl ?_
  refine wa_geti ck_8 fl_8_170 ly_30 ?_
  refine wa_rw (Sm.gi fs1 13 (Or.inr (by decide))) ?_
  refine wa_iconst (v := 1) (by decide) ?_
  refine wa_iadd ?_
  refine wa_top (fun v3 hv3 => ?_)
  have tv3 := i_addT hv3
  clear hv3
  refine wa_puti ck_8 fl_8_170 ly_30 (fun s4 hs4 => ?_)
  have Fs4 : Sm 11 31 σ s4 := by rw [hs4]; exact Sm.si Fs1 _ _ (by decide) (by decide)
  refine wa_return (st := []) rfl rfl ?_
  exact ⟨Fs4, trivial⟩
set_option maxHeartbeats 4000000 in
theorem sp_X8_checkDivisor (G : kG9) {d : Nat} (hd : 1 ≤ d) (σ : St) (r1 : (gi σ 18 5).toInt ≤ 2000) : Ct G M_X8_checkDivisor d [.ref 30] σ (fun r σ' => Sm 30 31 σ σ' ∧ True) := by
  refine wa_start (by decide) rfl (Nat.le_of_ble_eq_true rfl) (lv := [(0, .ref 30)]) rfl o_X8_checkDivisor_0 rfl ?_
  refine wa_aload_n (i := 0) rfl rfl ?_
  refine wa_getr ck_8 fl_8_9 ly_30 rf_30_0 ?_
  refine wa_aload_n (i := 0) rfl rfl ?_
  refine wa_geti ck_8 fl_8_79 ly_30 ?_
  refine wa_Vi (d9 := d - 1) [.int _] [] (sp_X3_numberAt G (d := d - 1) (by omega) σ _ (by first | assumption | exact Or.inl rfl | exact Or.inr rfl | (((try simp only [vp_in_iff, Int32.lt_iff_toInt_lt, Int32.le_iff_toInt_le, ← Int32.toInt_inj, Int32.reduceToInt, n_1, n_2, n_8, Int32.toNatClampNeg, Int64.lt_iff_toInt_lt, Int64.le_iff_toInt_le, ← Int64.toInt_inj, Int64.reduceToInt, Int32.toInt_toInt64, lg_cmp_ge, lg_cmp_le, lg_cmp_gt, lg_cmp_lt, lg_cmp_eq, Bool.false_eq_true, Bool.true_eq_false, reduceCtorEq, false_iff, true_iff, iff_true, iff_false, and_true, true_and, and_false, false_and, reduceIte, ite_true, ite_false, eq_self] at *)) <;> omega))) (rfl) rfl rfl (zr (by omega)) mk_X3_numberAt ly_18 ml_8_206 (Nat.le_of_ble_eq_true rfl) (fun x2 s1 hs1 => ?_)
  obtain ⟨zs1, -⟩ := pI hs1
  subst zs1
  refine wa_istore_nD (lv' := [(1, .int x2), (0, .ref 30)]) (i := 1) rfl (by decide) rfl ?_
  refine wa_aload_n (i := 0) rfl rfl ?_
  refine wa_geti ck_8 fl_8_39 ly_30 ?_
  refine wa_iconst (v := 2) (by decide) ?_
  refine wa_icmp_ne o_X8_checkDivisor_45 (by decide) (fun h3 => ?_) (fun h3 => ?_)
  · refine wa_return (st := []) rfl rfl ?_
    exact ⟨(Sm.rf 30 31 σ), trivial⟩
  · refine wa_aload_n (i := 0) rfl rfl ?_
    refine wa_geti ck_8 fl_8_167 ly_30 ?_
    refine wa_bipush (v := 120) (by decide) ?_
    refine wa_icmp_ge o_X8_checkDivisor_45 (by decide) (fun h4 => ?_) (fun h4 => ?_)
    · refine wa_return (st := []) rfl rfl ?_
      exact ⟨(Sm.rf 30 31 σ), trivial⟩
    · have mh4 := nle_mx h4
      refine wa_iload_n (i := 1) rfl rfl ?_
      refine wa_iconst (v := 2) (by decide) ?_
      refine wa_icmp_lt o_X8_checkDivisor_40 (by decide) (fun h5 => ?_) (fun h5 => ?_)
      · refine wa_aload_n (i := 0) rfl rfl ?_
        refine wa_iconst (v := 4) (by decide) ?_
        refine wa_Vv (d9 := d - 1) [.int _] [] (sp_X8_fail G (d := d - 1) (by omega) σ _) (rfl) rfl rfl (zr (by omega)) mk_X8_fail ly_30 ml_8_95 (Nat.le_of_ble_eq_true rfl) (fun s6 hs6 => ?_)
        obtain ⟨fs6, -⟩ := hs6
        have Fs6 := Sm.tr (Sm.rf 30 31 σ) (Sm.wd fs6 (lo' := 30) (hi' := 31) (by decide) (by decide))
        refine wa_return (st := []) rfl rfl ?_
        exact ⟨Fs6, trivial⟩
      · refine wa_iload_n (i := 1) rfl rfl ?_
        refine wa_bipush (v := 12) (by decide) ?_
        refine wa_icmp_le o_X8_checkDivisor_45 (by decide) (fun h8 => ?_) (fun h8 => ?_)
        · refine wa_return (st := []) rfl rfl ?_
          exact ⟨(Sm.rf 30 31 σ), trivial⟩
        · refine wa_aload_n (i := 0) rfl rfl ?_
          refine wa_iconst (v := 4) (by decide) ?_
          refine wa_Vv (d9 := d - 1) [.int _] [] (sp_X8_fail G (d := d - 1) (by omega) σ _) (rfl) rfl rfl (zr (by omega)) mk_X8_fail ly_30 ml_8_95 (Nat.le_of_ble_eq_true rfl) (fun s9 hs9 => ?_)
          obtain ⟨fs9, -⟩ := hs9
          have Fs9 := Sm.tr (Sm.rf 30 31 σ) (Sm.wd fs9 (lo' := 30) (hi' := 31) (by decide) (by decide))
          refine wa_return (st := []) rfl rfl ?_
          exact ⟨Fs9, trivial⟩
set_option maxHeartbeats 4000000 in
theorem sp_X8_failIf (G : kG9) {d : Nat} (hd : 1 ≤ d) (σ : St) (a0 : Int32) (a1 : Int32) : Ct G M_X8_failIf d [.ref 30, .int a0, .int a1] σ (fun r σ' => Sm 30 31 σ σ' ∧ True) := by
  refine wa_start (by decide) rfl (Nat.le_of_ble_eq_true rfl) (lv := [(0, .ref 30), (1, .int a0), (2, .int a1)]) rfl o_X8_failIf_0 rfl ?_
  have ua0 := Int32.toInt_lt a0
  have wa0 := Int32.le_toInt a0
  have ua1 := Int32.toInt_lt a1
  have wa1 := Int32.le_toInt a1
  refine wa_iload_n (i := 1) rfl rfl ?_
  refine wa_if_eq o_X8_failIf_23 (by decide) (fun h1 => ?_) (fun h1 => ?_)
  · refine wa_return (st := []) rfl rfl ?_
    exact ⟨(Sm.rf 30 31 σ), trivial⟩
  · refine wa_aload_n (i := 0) rfl rfl ?_
    refine wa_iload_n (i := 1) rfl rfl ?_
    refine wa_puti ck_8 fl_8_62 ly_30 (fun s2 hs2 => ?_)
    have Fs2 : Sm 30 31 σ s2 := by rw [hs2]; exact Sm.si (Sm.rf 30 31 σ) _ _ (by decide) (by decide)
    refine wa_aload_n (i := 0) rfl rfl ?_
    refine wa_aload_n (i := 0) rfl rfl ?_
    refine wa_getr ck_8 fl_8_15 ly_30 rf_30_1 ?_
    refine wa_iload_n (i := 2) rfl rfl ?_
    refine wa_bipush (v := 9) (by decide) ?_
    refine wa_Vi (d9 := d - 1) [.int _, .int _] [.ref 30] (sp_X2_fact G (d := d - 1) (by omega) s2 _ _) (rfl) rfl rfl (zr (by omega)) mk_X2_fact ly_7 ml_8_139 (Nat.le_of_ble_eq_true rfl) (fun x4 s3 hs3 => ?_)
    obtain ⟨zs3, -⟩ := pI hs3
    subst zs3
    refine wa_puti ck_8 fl_8_123 ly_30 (fun s5 hs5 => ?_)
    have Fs5 : Sm 30 31 σ s5 := by rw [hs5]; exact Sm.si Fs2 _ _ (by decide) (by decide)
    refine wa_return (st := []) rfl rfl ?_
    exact ⟨Fs5, trivial⟩
set_option maxHeartbeats 4000000 in
theorem sp_X8_expect (G : kG9) {d : Nat} (hd : 1 ≤ d) (σ : St) (a0 : Int32) : Ct G M_X8_expect d [.ref 30, .int a0] σ (fun r σ' => Sm 30 31 σ σ' ∧ True) := by
  refine wa_start (by decide) rfl (Nat.le_of_ble_eq_true rfl) (lv := [(0, .ref 30), (1, .int a0)]) rfl o_X8_expect_0 rfl ?_
  have ua0 := Int32.toInt_lt a0
  have wa0 := Int32.le_toInt a0
  refine wa_aload_n (i := 0) rfl rfl ?_
  refine wa_geti ck_8 fl_8_39 ly_30 ?_
  refine wa_iload_n (i := 1) rfl rfl ?_
  refine wa_icmp_ne o_X8_expect_15 (by decide) (fun h1 => ?_) (fun h1 => ?_)
  · refine wa_aload_n (i := 0) rfl rfl ?_
    refine wa_iconst (v := 2) (by decide) ?_
    refine wa_Vv (d9 := d - 1) [.int _] [] (sp_X8_fail G (d := d - 1) (by omega) σ _) (rfl) rfl rfl (zr (by omega)) mk_X8_fail ly_30 ml_8_95 (Nat.le_of_ble_eq_true rfl) (fun s2 hs2 => ?_)
    obtain ⟨fs2, -⟩ := hs2
    have Fs2 := Sm.tr (Sm.rf 30 31 σ) (Sm.wd fs2 (lo' := 30) (hi' := 31) (by decide) (by decide))
    refine wa_return (st := []) rfl rfl ?_
    exact ⟨Fs2, trivial⟩
  · refine wa_aload_n (i := 0) rfl rfl ?_
    refine wa_Vv (d9 := d - 1) [] [] (sp_X8_next G (d := d - 1) (by omega) σ ) (rfl) rfl rfl (zr (by omega)) mk_X8_next ly_30 ml_8_98 (Nat.le_of_ble_eq_true rfl) (fun s4 hs4 => ?_)
    obtain ⟨fs4, -⟩ := hs4
    have Fs4 := Sm.tr (Sm.rf 30 31 σ) (Sm.wd fs4 (lo' := 30) (hi' := 31) (by decide) (by decide))
    refine wa_goto o_X8_expect_20 (by decide) ?_
    refine wa_return (st := []) rfl rfl ?_
    exact ⟨Fs4, trivial⟩
set_option maxHeartbeats 4000000 in
theorem sp_X8_readVariable (G : kG9) {d : Nat} (hd : 1 ≤ d) (σ : St) (r1 : (gi σ 18 5).toInt ≤ 2000) : Ct G M_X8_readVariable d [.ref 30] σ (fun r σ' => Sm 7 31 σ σ' ∧ True) := by
  refine wa_start (by decide) rfl (Nat.le_of_ble_eq_true rfl) (lv := [(0, .ref 30)]) rfl o_X8_readVariable_0 rfl ?_
  refine wa_aload_n (i := 0) rfl rfl ?_
  refine wa_getr ck_8 fl_8_9 ly_30 rf_30_0 ?_
  refine wa_aload_n (i := 0) rfl rfl ?_
  refine wa_geti ck_8 fl_8_79 ly_30 ?_
  refine wa_Vl (d9 := d - 1) [.int _] [] (sp_X3_nameAt G (d := d - 1) (by omega) σ _ (by first | assumption | exact Or.inl rfl | exact Or.inr rfl | (((try simp only [vp_in_iff, Int32.lt_iff_toInt_lt, Int32.le_iff_toInt_le, ← Int32.toInt_inj, Int32.reduceToInt, n_1, n_2, n_8, Int32.toNatClampNeg, Int64.lt_iff_toInt_lt, Int64.le_iff_toInt_le, ← Int64.toInt_inj, Int64.reduceToInt, Int32.toInt_toInt64, lg_cmp_ge, lg_cmp_le, lg_cmp_gt, lg_cmp_lt, lg_cmp_eq, Bool.false_eq_true, Bool.true_eq_false, reduceCtorEq, false_iff, true_iff, iff_true, iff_false, and_true, true_and, and_false, false_and, reduceIte, ite_true, ite_false, eq_self] at *)) <;> omega))) (rfl) rfl rfl (zr (by omega)) mk_X3_nameAt ly_18 ml_8_82 (Nat.le_of_ble_eq_true rfl) (fun x2 s1 hs1 => ?_)
  obtain ⟨zs1, -⟩ := pL hs1
  subst zs1
  refine wa_lstore_nD (lv' := [(1, .long x2), (0, .ref 30)]) (i := 1) rfl (by decide) rfl ?_
  refine wa_aload_n (i := 0) rfl rfl ?_
  refine wa_geti ck_8 fl_8_39 ly_30 ?_
  refine wa_iconst (v := 1) (by decide) ?_
  refine wa_icmp_eq o_X8_readVariable_28 (by decide) (fun h3 => ?_) (fun h3 => ?_)
  · refine wa_aload_n (i := 0) rfl rfl ?_
    refine wa_getr ck_8 fl_8_15 ly_30 rf_30_1 ?_
    refine wa_lload_n (i := 1) rfl rfl ?_
    refine wa_Vi (d9 := d - 1) [.long _] [] (sp_X2_variableOf G (d := d - 1) (by omega) σ _) (rfl) rfl rfl (zr (by omega)) mk_X2_variableOf ly_7 ml_8_92 (Nat.le_of_ble_eq_true rfl) (fun x5 s4 hs4 => ?_)
    obtain ⟨zs4, -⟩ := pI hs4
    subst zs4
    refine wa_iconst (v := (-1)) (by decide) ?_
    refine wa_icmp_ne o_X8_readVariable_52 (by decide) (fun h6 => ?_) (fun h6 => ?_)
    · refine wa_aload_n (i := 0) rfl rfl ?_
      refine wa_iconst (v := 3) (by decide) ?_
      refine wa_Vv (d9 := d - 1) [.int _] [] (sp_X8_fail G (d := d - 1) (by omega) σ _) (rfl) rfl rfl (zr (by omega)) mk_X8_fail ly_30 ml_8_95 (Nat.le_of_ble_eq_true rfl) (fun s7 hs7 => ?_)
      obtain ⟨fs7, -⟩ := hs7
      have Fs7 := Sm.tr (Sm.rf 7 31 σ) (Sm.wd fs7 (lo' := 7) (hi' := 31) (by decide) (by decide))
      refine wa_goto o_X8_readVariable_83 (by decide) ?_
      refine wa_return (st := []) rfl rfl ?_
      exact ⟨Fs7, trivial⟩
    · refine wa_aload_n (i := 0) rfl rfl ?_
      refine wa_getr ck_8 fl_8_15 ly_30 rf_30_1 ?_
      refine wa_lload_n (i := 1) rfl rfl ?_
      refine wa_Vi (d9 := d - 1) [.long _] [] (sp_X2_claimOf G (d := d - 1) (by omega) σ _) (rfl) rfl rfl (zr (by omega)) mk_X2_claimOf ly_7 ml_8_88 (Nat.le_of_ble_eq_true rfl) (fun x10 s9 hs9 => ?_)
      obtain ⟨zs9, -⟩ := pI hs9
      subst zs9
      refine wa_iconst (v := (-1)) (by decide) ?_
      refine wa_icmp_eq o_X8_readVariable_60 (by decide) (fun h11 => ?_) (fun h11 => ?_)
      · refine wa_aload_n (i := 0) rfl rfl ?_
        refine wa_getr ck_8 fl_8_15 ly_30 rf_30_1 ?_
        refine wa_lload_n (i := 1) rfl rfl ?_
        refine wa_Vi (d9 := d - 1) [.long _] [] (sp_X2_addVariable G (d := d - 1) (by omega) σ _) (rfl) rfl rfl (zr (by omega)) mk_X2_addVariable ly_7 ml_8_146 (Nat.le_of_ble_eq_true rfl) (fun x13 s12 hs12 => ?_)
        obtain ⟨bx13, ex13, fs12, -⟩ := pB hs12
        subst ex13
        have Fs12 := Sm.tr (Sm.rf 7 31 σ) (Sm.wd fs12 (lo' := 7) (hi' := 31) (by decide) (by decide))
        refine wa_if_eq o_X8_readVariable_78 (by decide) (fun h14 => ?_) (fun h14 => ?_)
        · replace h14 := bI_f (b := bx13) (rfl) h14
          refine wa_aload_n (i := 0) rfl rfl ?_
          refine wa_iconst (v := 5) (by decide) ?_
          refine wa_Vv (d9 := d - 1) [.int _] [] (sp_X8_fail G (d := d - 1) (by omega) s12 _) (rfl) rfl rfl (zr (by omega)) mk_X8_fail ly_30 ml_8_95 (Nat.le_of_ble_eq_true rfl) (fun s15 hs15 => ?_)
          obtain ⟨fs15, -⟩ := hs15
          have Fs15 := Sm.tr Fs12 (Sm.wd fs15 (lo' := 7) (hi' := 31) (by decide) (by decide))
          refine wa_return (st := []) rfl rfl ?_
          exact ⟨Fs15, trivial⟩
        · replace h14 := bI_t (b := bx13) (rfl) h14
          refine wa_aload_n (i := 0) rfl rfl ?_
          refine wa_Vv (d9 := d - 1) [] [] (sp_X8_next G (d := d - 1) (by omega) s12 ) (rfl) rfl rfl (zr (by omega)) mk_X8_next ly_30 ml_8_98 (Nat.le_of_ble_eq_true rfl) (fun s17 hs17 => ?_)
          obtain ⟨fs17, -⟩ := hs17
          have Fs17 := Sm.tr Fs12 (Sm.wd fs17 (lo' := 7) (hi' := 31) (by decide) (by decide))
          refine wa_goto o_X8_readVariable_83 (by decide) ?_
          refine wa_return (st := []) rfl rfl ?_
          exact ⟨Fs17, trivial⟩
      · refine wa_aload_n (i := 0) rfl rfl ?_
        refine wa_iconst (v := 3) (by decide) ?_
        refine wa_Vv (d9 := d - 1) [.int _] [] (sp_X8_fail G (d := d - 1) (by omega) σ _) (rfl) rfl rfl (zr (by omega)) mk_X8_fail ly_30 ml_8_95 (Nat.le_of_ble_eq_true rfl) (fun s19 hs19 => ?_)
        obtain ⟨fs19, -⟩ := hs19
        have Fs19 := Sm.tr (Sm.rf 7 31 σ) (Sm.wd fs19 (lo' := 7) (hi' := 31) (by decide) (by decide))
        refine wa_goto o_X8_readVariable_83 (by decide) ?_
        refine wa_return (st := []) rfl rfl ?_
        exact ⟨Fs19, trivial⟩
  · refine wa_aload_n (i := 0) rfl rfl ?_
    refine wa_iconst (v := 2) (by decide) ?_
    refine wa_Vv (d9 := d - 1) [.int _] [] (sp_X8_fail G (d := d - 1) (by omega) σ _) (rfl) rfl rfl (zr (by omega)) mk_X8_fail ly_30 ml_8_95 (Nat.le_of_ble_eq_true rfl) (fun s21 hs21 => ?_)
    obtain ⟨fs21, -⟩ := hs21
    have Fs21 := Sm.tr (Sm.rf 7 31 σ) (Sm.wd fs21 (lo' := 7) (hi' := 31) (by decide) (by decide))
    refine wa_goto o_X8_readVariable_83 (by decide) ?_
    refine wa_return (st := []) rfl rfl ?_
    exact ⟨Fs21, trivial⟩
set_option maxHeartbeats 4000000 in
theorem sp_X8_readVariables (G : kG9) {d : Nat} (hd : 2 ≤ d) (σ : St) (r1 : (gi σ 18 5).toInt ≤ 2000) : Ct G M_X8_readVariables d [.ref 30] σ (fun r σ' => Sm 7 31 σ σ' ∧ True) := by
  refine wa_start (by decide) rfl (Nat.le_of_ble_eq_true rfl) (lv := [(0, .ref 30)]) rfl o_X8_readVariables_0 rfl ?_
  refine wa_aload_n (i := 0) rfl rfl ?_
  refine wa_Vv (d9 := d - 1) [] [] (sp_X8_next G (d := d - 1) (by omega) σ ) (rfl) rfl rfl (zr (by omega)) mk_X8_next ly_30 ml_8_98 (Nat.le_of_ble_eq_true rfl) (fun s1 hs1 => ?_)
  obtain ⟨fs1, -⟩ := hs1
  have Fs1 := Sm.tr (Sm.rf 7 31 σ) (Sm.wd fs1 (lo' := 7) (hi' := 31) (by decide) (by decide))
  refine wa_aload_n (i := 0) rfl rfl ?_
  refine wa_Vv (d9 := d - 1) [] [] (sp_X8_readVariable G (d := d - 1) (by omega) s1  (by rw [Sm.gi fs1 5 (Or.inl (by decide))]; first | assumption | exact Or.inl rfl | exact Or.inr rfl | (((try simp only [vp_in_iff, Int32.lt_iff_toInt_lt, Int32.le_iff_toInt_le, ← Int32.toInt_inj, Int32.reduceToInt, n_1, n_2, n_8, Int32.toNatClampNeg, Int64.lt_iff_toInt_lt, Int64.le_iff_toInt_le, ← Int64.toInt_inj, Int64.reduceToInt, Int32.toInt_toInt64, lg_cmp_ge, lg_cmp_le, lg_cmp_gt, lg_cmp_lt, lg_cmp_eq, Bool.false_eq_true, Bool.true_eq_false, reduceCtorEq, false_iff, true_iff, iff_true, iff_false, and_true, true_and, and_false, false_and, reduceIte, ite_true, ite_false, eq_self] at *)) <;> omega))) (rfl) rfl rfl (zr (by omega)) mk_X8_readVariable ly_30 ml_8_143 (Nat.le_of_ble_eq_true rfl) (fun s3 hs3 => ?_)
  obtain ⟨fs3, -⟩ := hs3
  have Fs3 := Sm.tr Fs1 (Sm.wd fs3 (lo' := 7) (hi' := 31) (by decide) (by decide))
  refine wa_iconst (v := 0) (by decide) ?_
  refine wa_istore_nD (lv' := [(1, .int 0), (0, .ref 30)]) (i := 1) rfl (by decide) rfl ?_
  refine wa_pick [1, 0] rfl ?_
  have hi7 : ∀ (n9_10 : Nat) (l1 : Int32) (s5 : St), ((Sm 7 31 σ s5) ∧ (0 ≤ l1.toInt) ∧ (True)) → (2147483647 - l1.toInt).toNat = n9_10 → WA G M_X8_readVariables (ZM G M_X8_readVariables d (fun r σ' => Sm 7 31 σ σ' ∧ True)) B_X8_readVariables_10 [(0, .ref 30), (1, .int l1)] [] s5 := by
    intro n9_10
    induction n9_10 using Nat.strongRecOn with
    | _ n9_10 ih6 =>
      intro l1 s5 i9 m9_10
      obtain ⟨Fs5, jhi7_0, -⟩ := i9
      have ul1 := Int32.toInt_lt l1
      have wl1 := Int32.le_toInt l1
      refine wa_iload_n (i := 1) rfl rfl ?_
      refine wa_sipush (v := 2000) (by decide) ?_
      refine wa_icmp_ge o_X8_readVariables_35 (by decide) (fun h8 => ?_) (fun h8 => ?_)
      · refine wa_return (st := []) rfl rfl ?_
        exact ⟨Fs5, trivial⟩
      · have mh8 := nle_mx h8
        refine wa_aload_n (i := 0) rfl rfl ?_
        refine wa_geti ck_8 fl_8_39 ly_30 ?_
        refine wa_iconst (v := 1) (by decide) ?_
        refine wa_icmp_ne o_X8_readVariables_35 (by decide) (fun h9 => ?_) (fun h9 => ?_)
        · refine wa_return (st := []) rfl rfl ?_
          exact ⟨Fs5, trivial⟩
        · refine wa_aload_n (i := 0) rfl rfl ?_
          refine wa_Vv (d9 := d - 1) [] [] (sp_X8_readVariable G (d := d - 1) (by omega) s5  (by first | assumption | exact Or.inl rfl | exact Or.inr rfl | (((try simp only [vp_in_iff, Int32.lt_iff_toInt_lt, Int32.le_iff_toInt_le, ← Int32.toInt_inj, Int32.reduceToInt, n_1, n_2, n_8, Int32.toNatClampNeg, Int64.lt_iff_toInt_lt, Int64.le_iff_toInt_le, ← Int64.toInt_inj, Int64.reduceToInt, Int32.toInt_toInt64, lg_cmp_ge, lg_cmp_le, lg_cmp_gt, lg_cmp_lt, lg_cmp_eq, Bool.false_eq_true, Bool.true_eq_false, reduceCtorEq, false_iff, true_iff, iff_true, iff_false, and_true, true_and, and_false, false_and, reduceIte, ite_true, ite_false, eq_self] at *)) <;> omega))) (rfl) rfl rfl (zr (by omega)) mk_X8_readVariable ly_30 ml_8_143 (Nat.le_of_ble_eq_true rfl) (fun s10 hs10 => ?_)
          obtain ⟨fs10, -⟩ := hs10
          have Fs10 := Sm.tr Fs5 (Sm.wd fs10 (lo' := 7) (hi' := 31) (by decide) (by decide))
          refine wa_iinc (v := (1)) (lv' := fun y12 => [(1, .int y12), (0, .ref 30)]) (by decide) rfl (by decide) (fun _ => rfl) (fun y12 hy12 => ?_)
          have ty12 := i_addT hy12.symm
          clear hy12
          refine wa_goto o_X8_readVariables_10 (by decide) ?_
          refine wa_pick [1, 0] rfl ?_
          exact ih6 _ (by ((try simp only [vp_in_iff, Int32.lt_iff_toInt_lt, Int32.le_iff_toInt_le, ← Int32.toInt_inj, Int32.reduceToInt, n_1, n_2, n_8, Int32.toNatClampNeg, Int64.lt_iff_toInt_lt, Int64.le_iff_toInt_le, ← Int64.toInt_inj, Int64.reduceToInt, Int32.toInt_toInt64, lg_cmp_ge, lg_cmp_le, lg_cmp_gt, lg_cmp_lt, lg_cmp_eq, Bool.false_eq_true, Bool.true_eq_false, reduceCtorEq, false_iff, true_iff, iff_true, iff_false, and_true, true_and, and_false, false_and, reduceIte, ite_true, ite_false, eq_self] at *)) <;> omega) _ _ ⟨Fs10, (by ((try simp only [vp_in_iff, Int32.lt_iff_toInt_lt, Int32.le_iff_toInt_le, ← Int32.toInt_inj, Int32.reduceToInt, n_1, n_2, n_8, Int32.toNatClampNeg, Int64.lt_iff_toInt_lt, Int64.le_iff_toInt_le, ← Int64.toInt_inj, Int64.reduceToInt, Int32.toInt_toInt64, lg_cmp_ge, lg_cmp_le, lg_cmp_gt, lg_cmp_lt, lg_cmp_eq, Bool.false_eq_true, Bool.true_eq_false, reduceCtorEq, false_iff, true_iff, iff_true, iff_false, and_true, true_and, and_false, false_and, reduceIte, ite_true, ite_false, eq_self] at *)) <;> omega), trivial⟩ rfl
  exact hi7 _ _ _ ⟨Fs3, (by ((try simp only [vp_in_iff, Int32.lt_iff_toInt_lt, Int32.le_iff_toInt_le, ← Int32.toInt_inj, Int32.reduceToInt, n_1, n_2, n_8, Int32.toNatClampNeg, Int64.lt_iff_toInt_lt, Int64.le_iff_toInt_le, ← Int64.toInt_inj, Int64.reduceToInt, Int32.toInt_toInt64, lg_cmp_ge, lg_cmp_le, lg_cmp_gt, lg_cmp_lt, lg_cmp_eq, Bool.false_eq_true, Bool.true_eq_false, reduceCtorEq, false_iff, true_iff, iff_true, iff_false, and_true, true_and, and_false, false_and, reduceIte, ite_true, ite_false, eq_self] at *)) <;> omega), trivial⟩ rfl
set_option maxHeartbeats 4000000 in
theorem sp_X8_beginClaim (G : kG9) {d : Nat} (hd : 2 ≤ d) (σ : St) (r1 : (gi σ 18 5).toInt ≤ 2000) : Ct G M_X8_beginClaim d [.ref 30] σ (fun r σ' => ∃ x : Bool, r = some (.int (bI x)) ∧ Sm 30 31 σ σ' ∧ True) := by
  refine wa_start (by decide) rfl (Nat.le_of_ble_eq_true rfl) (lv := [(0, .ref 30)]) rfl o_X8_beginClaim_0 rfl ?_
  refine wa_aload_n (i := 0) rfl rfl ?_
  refine wa_Vv (d9 := d - 1) [] [] (sp_X8_next G (d := d - 1) (by omega) σ ) (rfl) rfl rfl (zr (by omega)) mk_X8_next ly_30 ml_8_98 (Nat.le_of_ble_eq_true rfl) (fun s1 hs1 => ?_)
  obtain ⟨fs1, -⟩ := hs1
  have Fs1 := Sm.tr (Sm.rf 30 31 σ) (Sm.wd fs1 (lo' := 30) (hi' := 31) (by decide) (by decide))
  refine wa_aload_n (i := 0) rfl rfl ?_
  refine wa_aload_n (i := 0) rfl rfl ?_
  refine wa_getr ck_8 fl_8_9 ly_30 rf_30_0 ?_
  refine wa_aload_n (i := 0) rfl rfl ?_
  refine wa_geti ck_8 fl_8_79 ly_30 ?_
  refine wa_Vl (d9 := d - 1) [.int _] [.ref 30] (sp_X3_nameAt G (d := d - 1) (by omega) s1 _ (by rw [Sm.gi fs1 5 (Or.inl (by decide))]; first | assumption | exact Or.inl rfl | exact Or.inr rfl | (((try simp only [vp_in_iff, Int32.lt_iff_toInt_lt, Int32.le_iff_toInt_le, ← Int32.toInt_inj, Int32.reduceToInt, n_1, n_2, n_8, Int32.toNatClampNeg, Int64.lt_iff_toInt_lt, Int64.le_iff_toInt_le, ← Int64.toInt_inj, Int64.reduceToInt, Int32.toInt_toInt64, lg_cmp_ge, lg_cmp_le, lg_cmp_gt, lg_cmp_lt, lg_cmp_eq, Bool.false_eq_true, Bool.true_eq_false, reduceCtorEq, false_iff, true_iff, iff_true, iff_false, and_true, true_and, and_false, false_and, reduceIte, ite_true, ite_false, eq_self] at *)) <;> omega))) (rfl) rfl rfl (zr (by omega)) mk_X3_nameAt ly_18 ml_8_82 (Nat.le_of_ble_eq_true rfl) (fun x4 s3 hs3 => ?_)
  obtain ⟨zs3, -⟩ := pL hs3
  subst zs3
  refine wa_putl ck_8 fl_8_150 ly_30 (fun s5 hs5 => ?_)
  have Fs5 : Sm 30 31 σ s5 := by rw [hs5]; exact Sm.sl Fs1 _ _ (by decide) (by decide)
  refine wa_aload_n (i := 0) rfl rfl ?_
  refine wa_aload_n (i := 0) rfl rfl ?_
  refine wa_geti ck_8 fl_8_136 ly_30 ?_
  refine wa_rw (nx_gi_sl hs5) ?_
  refine wa_puti ck_8 fl_8_154 ly_30 (fun s6 hs6 => ?_)
  have Fs6 : Sm 30 31 σ s6 := by rw [hs6]; exact Sm.si Fs5 _ _ (by decide) (by decide)
  refine wa_aload_n (i := 0) rfl rfl ?_
  refine wa_geti ck_8 fl_8_39 ly_30 ?_
  refine wa_rw ((nxk_gi_si hs6 (by decide)).trans (nx_gi_sl hs5)) ?_
  refine wa_iconst (v := 1) (by decide) ?_
  refine wa_icmp_eq o_X8_beginClaim_43 (by decide) (fun h7 => ?_) (fun h7 => ?_)
  · refine wa_aload_n (i := 0) rfl rfl ?_
    refine wa_getr ck_8 fl_8_15 ly_30 rf_30_1 ?_
    refine wa_aload_n (i := 0) rfl rfl ?_
    refine wa_getl ck_8 fl_8_150 ly_30 ?_
    refine wa_rwl ((nx_gl_si hs6).trans (nxe_gl_sl hs5)) ?_
    refine wa_Vi (d9 := d - 1) [.long _] [] (sp_X2_variableOf G (d := d - 1) (by omega) s6 _) (rfl) rfl rfl (zr (by omega)) mk_X2_variableOf ly_7 ml_8_92 (Nat.le_of_ble_eq_true rfl) (fun x9 s8 hs8 => ?_)
    obtain ⟨zs8, -⟩ := pI hs8
    subst zs8
    refine wa_iconst (v := (-1)) (by decide) ?_
    refine wa_icmp_ne o_X8_beginClaim_73 (by decide) (fun h10 => ?_) (fun h10 => ?_)
    · refine wa_aload_n (i := 0) rfl rfl ?_
      refine wa_iconst (v := 3) (by decide) ?_
      refine wa_Vv (d9 := d - 1) [.int _] [] (sp_X8_fail G (d := d - 1) (by omega) s6 _) (rfl) rfl rfl (zr (by omega)) mk_X8_fail ly_30 ml_8_95 (Nat.le_of_ble_eq_true rfl) (fun s11 hs11 => ?_)
      obtain ⟨fs11, -⟩ := hs11
      have Fs11 := Sm.tr Fs6 (Sm.wd fs11 (lo' := 30) (hi' := 31) (by decide) (by decide))
      refine wa_goto o_X8_beginClaim_111 (by decide) ?_
      refine wa_aload_n (i := 0) rfl rfl ?_
      refine wa_geti ck_8 fl_8_62 ly_30 ?_
      refine wa_if_ne o_X8_beginClaim_122 (by decide) (fun h13 => ?_) (fun h13 => ?_)
      · refine wa_iconst (v := 0) (by decide) ?_
        refine wa_zreturn false (rfl) rfl rfl ?_
        exact ⟨_, rfl, Fs11, trivial⟩
      · refine wa_iconst (v := 1) (by decide) ?_
        refine wa_goto o_X8_beginClaim_123 (by decide) ?_
        refine wa_zreturn true (rfl) rfl rfl ?_
        exact ⟨_, rfl, Fs11, trivial⟩
    · refine wa_aload_n (i := 0) rfl rfl ?_
      refine wa_getr ck_8 fl_8_15 ly_30 rf_30_1 ?_
      refine wa_aload_n (i := 0) rfl rfl ?_
      refine wa_getl ck_8 fl_8_150 ly_30 ?_
      refine wa_rwl ((nx_gl_si hs6).trans (nxe_gl_sl hs5)) ?_
      refine wa_Vi (d9 := d - 1) [.long _] [] (sp_X2_claimOf G (d := d - 1) (by omega) s6 _) (rfl) rfl rfl (zr (by omega)) mk_X2_claimOf ly_7 ml_8_88 (Nat.le_of_ble_eq_true rfl) (fun x15 s14 hs14 => ?_)
      obtain ⟨zs14, -⟩ := pI hs14
      subst zs14
      refine wa_iconst (v := (-1)) (by decide) ?_
      refine wa_icmp_eq o_X8_beginClaim_81 (by decide) (fun h16 => ?_) (fun h16 => ?_)
      · refine wa_aload_n (i := 0) rfl rfl ?_
        refine wa_getr ck_8 fl_8_15 ly_30 rf_30_1 ?_
        refine wa_geti ck_2 fl_8_33 ly_7 ?_
        refine wa_rw ((nxq_gi_si hs6 (by decide)).trans ((nx_gi_sl hs5).trans (Sm.gi fs1 11 (Or.inl (by decide))))) ?_
        refine wa_bipush (v := 24) (by decide) ?_
        refine wa_icmp_lt o_X8_beginClaim_101 (by decide) (fun h17 => ?_) (fun h17 => ?_)
        · refine wa_aload_n (i := 0) rfl rfl ?_
          refine wa_Vv (d9 := d - 1) [] [] (sp_X8_next G (d := d - 1) (by omega) s6 ) (rfl) rfl rfl (zr (by omega)) mk_X8_next ly_30 ml_8_98 (Nat.le_of_ble_eq_true rfl) (fun s18 hs18 => ?_)
          obtain ⟨fs18, -⟩ := hs18
          have Fs18 := Sm.tr Fs6 (Sm.wd fs18 (lo' := 30) (hi' := 31) (by decide) (by decide))
          refine wa_aload_n (i := 0) rfl rfl ?_
          refine wa_bipush (v := 10) (by decide) ?_
          refine wa_Vv (d9 := d - 1) [.int _] [] (sp_X8_expect G (d := d - 1) (by omega) s18 _) (rfl) rfl rfl (zr (by omega)) mk_X8_expect ly_30 ml_8_56 (Nat.le_of_ble_eq_true rfl) (fun s20 hs20 => ?_)
          obtain ⟨fs20, -⟩ := hs20
          have Fs20 := Sm.tr Fs18 (Sm.wd fs20 (lo' := 30) (hi' := 31) (by decide) (by decide))
          refine wa_aload_n (i := 0) rfl rfl ?_
          refine wa_geti ck_8 fl_8_62 ly_30 ?_
          refine wa_if_ne o_X8_beginClaim_122 (by decide) (fun h22 => ?_) (fun h22 => ?_)
          · refine wa_iconst (v := 0) (by decide) ?_
            refine wa_zreturn false (rfl) rfl rfl ?_
            exact ⟨_, rfl, Fs20, trivial⟩
          · refine wa_iconst (v := 1) (by decide) ?_
            refine wa_goto o_X8_beginClaim_123 (by decide) ?_
            refine wa_zreturn true (rfl) rfl rfl ?_
            exact ⟨_, rfl, Fs20, trivial⟩
        · refine wa_aload_n (i := 0) rfl rfl ?_
          refine wa_iconst (v := 5) (by decide) ?_
          refine wa_Vv (d9 := d - 1) [.int _] [] (sp_X8_fail G (d := d - 1) (by omega) s6 _) (rfl) rfl rfl (zr (by omega)) mk_X8_fail ly_30 ml_8_95 (Nat.le_of_ble_eq_true rfl) (fun s23 hs23 => ?_)
          obtain ⟨fs23, -⟩ := hs23
          have Fs23 := Sm.tr Fs6 (Sm.wd fs23 (lo' := 30) (hi' := 31) (by decide) (by decide))
          refine wa_goto o_X8_beginClaim_111 (by decide) ?_
          refine wa_aload_n (i := 0) rfl rfl ?_
          refine wa_geti ck_8 fl_8_62 ly_30 ?_
          refine wa_if_ne o_X8_beginClaim_122 (by decide) (fun h25 => ?_) (fun h25 => ?_)
          · refine wa_iconst (v := 0) (by decide) ?_
            refine wa_zreturn false (rfl) rfl rfl ?_
            exact ⟨_, rfl, Fs23, trivial⟩
          · refine wa_iconst (v := 1) (by decide) ?_
            refine wa_goto o_X8_beginClaim_123 (by decide) ?_
            refine wa_zreturn true (rfl) rfl rfl ?_
            exact ⟨_, rfl, Fs23, trivial⟩
      · refine wa_aload_n (i := 0) rfl rfl ?_
        refine wa_iconst (v := 3) (by decide) ?_
        refine wa_Vv (d9 := d - 1) [.int _] [] (sp_X8_fail G (d := d - 1) (by omega) s6 _) (rfl) rfl rfl (zr (by omega)) mk_X8_fail ly_30 ml_8_95 (Nat.le_of_ble_eq_true rfl) (fun s26 hs26 => ?_)
        obtain ⟨fs26, -⟩ := hs26
        have Fs26 := Sm.tr Fs6 (Sm.wd fs26 (lo' := 30) (hi' := 31) (by decide) (by decide))
        refine wa_goto o_X8_beginClaim_111 (by decide) ?_
        refine wa_aload_n (i := 0) rfl rfl ?_
        refine wa_geti ck_8 fl_8_62 ly_30 ?_
        refine wa_if_ne o_X8_beginClaim_122 (by decide) (fun h28 => ?_) (fun h28 => ?_)
        · refine wa_iconst (v := 0) (by decide) ?_
          refine wa_zreturn false (rfl) rfl rfl ?_
          exact ⟨_, rfl, Fs26, trivial⟩
        · refine wa_iconst (v := 1) (by decide) ?_
          refine wa_goto o_X8_beginClaim_123 (by decide) ?_
          refine wa_zreturn true (rfl) rfl rfl ?_
          exact ⟨_, rfl, Fs26, trivial⟩
  · refine wa_aload_n (i := 0) rfl rfl ?_
    refine wa_iconst (v := 2) (by decide) ?_
    refine wa_Vv (d9 := d - 1) [.int _] [] (sp_X8_fail G (d := d - 1) (by omega) s6 _) (rfl) rfl rfl (zr (by omega)) mk_X8_fail ly_30 ml_8_95 (Nat.le_of_ble_eq_true rfl) (fun s29 hs29 => ?_)
    obtain ⟨fs29, -⟩ := hs29
    have Fs29 := Sm.tr Fs6 (Sm.wd fs29 (lo' := 30) (hi' := 31) (by decide) (by decide))
    refine wa_goto o_X8_beginClaim_111 (by decide) ?_
    refine wa_aload_n (i := 0) rfl rfl ?_
    refine wa_geti ck_8 fl_8_62 ly_30 ?_
    refine wa_if_ne o_X8_beginClaim_122 (by decide) (fun h31 => ?_) (fun h31 => ?_)
    · refine wa_iconst (v := 0) (by decide) ?_
      refine wa_zreturn false (rfl) rfl rfl ?_
      exact ⟨_, rfl, Fs29, trivial⟩
    · refine wa_iconst (v := 1) (by decide) ?_
      refine wa_goto o_X8_beginClaim_123 (by decide) ?_
      refine wa_zreturn true (rfl) rfl rfl ?_
      exact ⟨_, rfl, Fs29, trivial⟩
set_option maxHeartbeats 4000000 in
theorem sp_X8_endClaim (G : kG9) {d : Nat} (hd : 2 ≤ d) (σ : St) : Ct G M_X8_endClaim d [.ref 30] σ (fun r σ' => Sm 7 14 σ σ' ∧ True) := by
  refine wa_start (by decide) rfl (Nat.le_of_ble_eq_true rfl) (lv := [(0, .ref 30)]) rfl o_X8_endClaim_0 rfl ?_
  refine wa_aload_n (i := 0) rfl rfl ?_
  refine wa_geti ck_8 fl_8_62 ly_30 ?_
  refine wa_if_ne o_X8_endClaim_38 (by decide) (fun h1 => ?_) (fun h1 => ?_)
  · refine wa_return (st := []) rfl rfl ?_
    exact ⟨(Sm.rf 7 14 σ), trivial⟩
  · refine wa_aload_n (i := 0) rfl rfl ?_
    refine wa_getr ck_8 fl_8_15 ly_30 rf_30_1 ?_
    refine wa_aload_n (i := 0) rfl rfl ?_
    refine wa_getr ck_8 fl_8_15 ly_30 rf_30_1 ?_
    refine wa_geti ck_2 fl_8_33 ly_7 ?_
    refine wa_bipush (v := 9) (by decide) ?_
    refine wa_aload_n (i := 0) rfl rfl ?_
    refine wa_geti ck_8 fl_8_154 ly_30 ?_
    refine wa_Vv (d9 := d - 1) [.int _, .int _, .int _] [] (sp_X2_setFact G (d := d - 1) (by omega) σ _ _ _) (rfl) rfl rfl (zr (by omega)) mk_X2_setFact ly_7 ml_8_157 (Nat.le_of_ble_eq_true rfl) (fun s2 hs2 => ?_)
    obtain ⟨fs2, -⟩ := hs2
    have Fs2 := Sm.tr (Sm.rf 7 14 σ) (Sm.wd fs2 (lo' := 7) (hi' := 14) (by decide) (by decide))
    refine wa_aload_n (i := 0) rfl rfl ?_
    refine wa_getr ck_8 fl_8_15 ly_30 rf_30_1 ?_
    refine wa_aload_n (i := 0) rfl rfl ?_
    refine wa_getl ck_8 fl_8_150 ly_30 ?_
    refine wa_rwl (Sm.gl fs2 9 (Or.inr (by decide))) ?_
    refine wa_Vv (d9 := d - 1) [.long _] [] (sp_X2_addClaim G (d := d - 1) (by omega) s2 _) (rfl) rfl rfl (zr (by omega)) mk_X2_addClaim ly_7 ml_8_160 (Nat.le_of_ble_eq_true rfl) (fun s4 hs4 => ?_)
    obtain ⟨fs4, -⟩ := hs4
    have Fs4 := Sm.tr Fs2 (Sm.wd fs4 (lo' := 7) (hi' := 14) (by decide) (by decide))
    refine wa_return (st := []) rfl rfl ?_
    exact ⟨Fs4, trivial⟩
set_option maxHeartbeats 4000000 in
theorem sp_X9_setRow (G : kG9) {d : Nat} (hd : 0 ≤ d) (σ : St) (a0 : Int32) (a1 : Int32) (a2 : Int64) : Ct G M_X9_setRow d [.ref 60, .int a0, .int a1, .long a2] σ (fun r σ' => Sm 61 62 σ σ' ∧ True) := by
  refine wa_start (by decide) rfl (Nat.le_of_ble_eq_true rfl) (lv := [(0, .ref 60), (1, .int a0), (2, .int a1), (3, .long a2)]) rfl o_X9_setRow_0 rfl ?_
  have ua0 := Int32.toInt_lt a0
  have wa0 := Int32.le_toInt a0
  have ua1 := Int32.toInt_lt a1
  have wa1 := Int32.le_toInt a1
  refine wa_iload_n (i := 1) rfl rfl ?_
  refine wa_if_lt o_X9_setRow_31 (by decide) (fun h1 => ?_) (fun h1 => ?_)
  · refine wa_return (st := []) rfl rfl ?_
    exact ⟨(Sm.rf 61 62 σ), trivial⟩
  · refine wa_iload_n (i := 1) rfl rfl ?_
    refine wa_sipush (v := 480) (by decide) ?_
    refine wa_icmp_ge o_X9_setRow_31 (by decide) (fun h2 => ?_) (fun h2 => ?_)
    · refine wa_return (st := []) rfl rfl ?_
      exact ⟨(Sm.rf 61 62 σ), trivial⟩
    · have mh2 := nle_mx h2
      refine wa_iload_n (i := 2) rfl rfl ?_
      refine wa_if_lt o_X9_setRow_31 (by decide) (fun h3 => ?_) (fun h3 => ?_)
      · refine wa_return (st := []) rfl rfl ?_
        exact ⟨(Sm.rf 61 62 σ), trivial⟩
      · refine wa_iload_n (i := 2) rfl rfl ?_
        refine wa_iconst (v := 5) (by decide) ?_
        refine wa_icmp_ge o_X9_setRow_31 (by decide) (fun h4 => ?_) (fun h4 => ?_)
        · refine wa_return (st := []) rfl rfl ?_
          exact ⟨(Sm.rf 61 62 σ), trivial⟩
        · have mh4 := nle_mx h4
          refine wa_aload_n (i := 0) rfl rfl ?_
          refine wa_getr ck_9 fl_9_11 ly_60 rf_60_0 ?_
          refine wa_iload_n (i := 1) rfl rfl ?_
          refine wa_iconst (v := 5) (by decide) ?_
          refine wa_imul ?_
          refine wa_top (fun v5 hv5 => ?_)
          have tv5 := i_mulT hv5
          clear hv5
          refine wa_iload_n (i := 2) rfl rfl ?_
          refine wa_iadd ?_
          refine wa_top (fun v6 hv6 => ?_)
          have tv6 := i_addT hv6
          clear hv6
          refine wa_lload_n (i := 3) rfl rfl ?_
          refine wa_last ly_61 (by ((try simp only [vp_in_iff, Int32.lt_iff_toInt_lt, Int32.le_iff_toInt_le, ← Int32.toInt_inj, Int32.reduceToInt, n_1, n_2, n_8, Int32.toNatClampNeg, Int64.lt_iff_toInt_lt, Int64.le_iff_toInt_le, ← Int64.toInt_inj, Int64.reduceToInt, Int32.toInt_toInt64, lg_cmp_ge, lg_cmp_le, lg_cmp_gt, lg_cmp_lt, lg_cmp_eq, Bool.false_eq_true, Bool.true_eq_false, reduceCtorEq, false_iff, true_iff, iff_true, iff_false, and_true, true_and, and_false, false_and, reduceIte, ite_true, ite_false, eq_self] at *)) <;> omega) (fun s7 hs7 => ?_)
          have Fs7 : Sm 61 62 σ s7 := by rw [hs7]; exact Sm.sl (Sm.rf 61 62 σ) _ _ (by decide) (by decide)
          refine wa_return (st := []) rfl rfl ?_
          exact ⟨Fs7, trivial⟩
set_option maxHeartbeats 4000000 in
theorem sp_X9_clearRow (G : kG9) {d : Nat} (hd : 1 ≤ d) (σ : St) (a0 : Int32) : Ct G M_X9_clearRow d [.ref 60, .int a0] σ (fun r σ' => Sm 61 62 σ σ' ∧ True) := by
  refine wa_start (by decide) rfl (Nat.le_of_ble_eq_true rfl) (lv := [(0, .ref 60), (1, .int a0)]) rfl o_X9_clearRow_0 rfl ?_
  have ua0 := Int32.toInt_lt a0
  have wa0 := Int32.le_toInt a0
  refine wa_iconst (v := 0) (by decide) ?_
  refine wa_istore_nD (lv' := [(2, .int 0), (0, .ref 60), (1, .int a0)]) (i := 2) rfl (by decide) rfl ?_
  refine wa_pick [1, 2, 0] rfl ?_
  have hi3 : ∀ (n9_2 : Nat) (l2 : Int32) (s1 : St), ((Sm 61 62 σ s1) ∧ (0 ≤ l2.toInt) ∧ (True)) → (2147483647 - l2.toInt).toNat = n9_2 → WA G M_X9_clearRow (ZM G M_X9_clearRow d (fun r σ' => Sm 61 62 σ σ' ∧ True)) B_X9_clearRow_2 [(0, .ref 60), (1, .int a0), (2, .int l2)] [] s1 := by
    intro n9_2
    induction n9_2 using Nat.strongRecOn with
    | _ n9_2 ih2 =>
      intro l2 s1 i9 m9_2
      obtain ⟨Fs1, jhi3_0, -⟩ := i9
      have ul2 := Int32.toInt_lt l2
      have wl2 := Int32.le_toInt l2
      refine wa_iload_n (i := 2) rfl rfl ?_
      refine wa_iconst (v := 5) (by decide) ?_
      refine wa_icmp_ge o_X9_clearRow_20 (by decide) (fun h4 => ?_) (fun h4 => ?_)
      · refine wa_return (st := []) rfl rfl ?_
        exact ⟨Fs1, trivial⟩
      · have mh4 := nle_mx h4
        refine wa_aload_n (i := 0) rfl rfl ?_
        refine wa_iload_n (i := 1) rfl rfl ?_
        refine wa_iload_n (i := 2) rfl rfl ?_
        refine wa_lconst (v := 0) (by decide) ?_
        refine wa_Vv (d9 := d - 1) [.int _, .int _, .long _] [] (sp_X9_setRow G (d := d - 1) (by omega) s1 _ _ _) (rfl) rfl rfl (zr (by omega)) mk_X9_setRow ly_60 ml_9_91 (Nat.le_of_ble_eq_true rfl) (fun s5 hs5 => ?_)
        obtain ⟨fs5, -⟩ := hs5
        have Fs5 := Sm.tr Fs1 (Sm.wd fs5 (lo' := 61) (hi' := 62) (by decide) (by decide))
        refine wa_iinc (v := (1)) (lv' := fun y7 => [(2, .int y7), (0, .ref 60), (1, .int a0)]) (by decide) rfl (by decide) (fun _ => rfl) (fun y7 hy7 => ?_)
        have ty7 := i_addT hy7.symm
        clear hy7
        refine wa_goto o_X9_clearRow_2 (by decide) ?_
        refine wa_pick [1, 2, 0] rfl ?_
        exact ih2 _ (by ((try simp only [vp_in_iff, Int32.lt_iff_toInt_lt, Int32.le_iff_toInt_le, ← Int32.toInt_inj, Int32.reduceToInt, n_1, n_2, n_8, Int32.toNatClampNeg, Int64.lt_iff_toInt_lt, Int64.le_iff_toInt_le, ← Int64.toInt_inj, Int64.reduceToInt, Int32.toInt_toInt64, lg_cmp_ge, lg_cmp_le, lg_cmp_gt, lg_cmp_lt, lg_cmp_eq, Bool.false_eq_true, Bool.true_eq_false, reduceCtorEq, false_iff, true_iff, iff_true, iff_false, and_true, true_and, and_false, false_and, reduceIte, ite_true, ite_false, eq_self] at *)) <;> omega) _ _ ⟨Fs5, (by ((try simp only [vp_in_iff, Int32.lt_iff_toInt_lt, Int32.le_iff_toInt_le, ← Int32.toInt_inj, Int32.reduceToInt, n_1, n_2, n_8, Int32.toNatClampNeg, Int64.lt_iff_toInt_lt, Int64.le_iff_toInt_le, ← Int64.toInt_inj, Int64.reduceToInt, Int32.toInt_toInt64, lg_cmp_ge, lg_cmp_le, lg_cmp_gt, lg_cmp_lt, lg_cmp_eq, Bool.false_eq_true, Bool.true_eq_false, reduceCtorEq, false_iff, true_iff, iff_true, iff_false, and_true, true_and, and_false, false_and, reduceIte, ite_true, ite_false, eq_self] at *)) <;> omega), trivial⟩ rfl
  exact hi3 _ _ _ ⟨(Sm.rf 61 62 σ), (by ((try simp only [vp_in_iff, Int32.lt_iff_toInt_lt, Int32.le_iff_toInt_le, ← Int32.toInt_inj, Int32.reduceToInt, n_1, n_2, n_8, Int32.toNatClampNeg, Int64.lt_iff_toInt_lt, Int64.le_iff_toInt_le, ← Int64.toInt_inj, Int64.reduceToInt, Int32.toInt_toInt64, lg_cmp_ge, lg_cmp_le, lg_cmp_gt, lg_cmp_lt, lg_cmp_eq, Bool.false_eq_true, Bool.true_eq_false, reduceCtorEq, false_iff, true_iff, iff_true, iff_false, and_true, true_and, and_false, false_and, reduceIte, ite_true, ite_false, eq_self] at *)) <;> omega), trivial⟩ rfl
set_option maxHeartbeats 4000000 in
theorem sp_X9_rowNumber (G : kG9) {d : Nat} (hd : 0 ≤ d) (σ : St) (a0 : Int32) (a1 : Int32) : Ct G M_X9_rowNumber d [.ref 60, .int a0, .int a1] σ (fun r σ' => ∃ x : Int64, r = some (.long x) ∧ σ = σ' ∧ True) := by
  refine wa_start (by decide) rfl (Nat.le_of_ble_eq_true rfl) (lv := [(0, .ref 60), (1, .int a0), (2, .int a1)]) rfl o_X9_rowNumber_0 rfl ?_
  have ua0 := Int32.toInt_lt a0
  have wa0 := Int32.le_toInt a0
  have ua1 := Int32.toInt_lt a1
  have wa1 := Int32.le_toInt a1
  refine wa_iload_n (i := 1) rfl rfl ?_
  refine wa_if_lt o_X9_rowNumber_33 (by decide) (fun h1 => ?_) (fun h1 => ?_)
  · refine wa_lconst (v := 0) (by decide) ?_
    refine wa_lreturn rfl rfl ?_
    exact ⟨_, rfl, rfl, trivial⟩
  · refine wa_iload_n (i := 1) rfl rfl ?_
    refine wa_sipush (v := 480) (by decide) ?_
    refine wa_icmp_ge o_X9_rowNumber_33 (by decide) (fun h2 => ?_) (fun h2 => ?_)
    · refine wa_lconst (v := 0) (by decide) ?_
      refine wa_lreturn rfl rfl ?_
      exact ⟨_, rfl, rfl, trivial⟩
    · have mh2 := nle_mx h2
      refine wa_iload_n (i := 2) rfl rfl ?_
      refine wa_if_lt o_X9_rowNumber_33 (by decide) (fun h3 => ?_) (fun h3 => ?_)
      · refine wa_lconst (v := 0) (by decide) ?_
        refine wa_lreturn rfl rfl ?_
        exact ⟨_, rfl, rfl, trivial⟩
      · refine wa_iload_n (i := 2) rfl rfl ?_
        refine wa_iconst (v := 5) (by decide) ?_
        refine wa_icmp_ge o_X9_rowNumber_33 (by decide) (fun h4 => ?_) (fun h4 => ?_)
        · refine wa_lconst (v := 0) (by decide) ?_
          refine wa_lreturn rfl rfl ?_
          exact ⟨_, rfl, rfl, trivial⟩
        · have mh4 := nle_mx h4
          refine wa_aload_n (i := 0) rfl rfl ?_
          refine wa_getr ck_9 fl_9_11 ly_60 rf_60_0 ?_
          refine wa_iload_n (i := 1) rfl rfl ?_
          refine wa_iconst (v := 5) (by decide) ?_
          refine wa_imul ?_
          refine wa_top (fun v5 hv5 => ?_)
          have tv5 := i_mulT hv5
          clear hv5
          refine wa_iload_n (i := 2) rfl rfl ?_
          refine wa_iadd ?_
          refine wa_top (fun v6 hv6 => ?_)
          have tv6 := i_addT hv6
          clear hv6
          refine wa_lald ly_61 (by ((try simp only [vp_in_iff, Int32.lt_iff_toInt_lt, Int32.le_iff_toInt_le, ← Int32.toInt_inj, Int32.reduceToInt, n_1, n_2, n_8, Int32.toNatClampNeg, Int64.lt_iff_toInt_lt, Int64.le_iff_toInt_le, ← Int64.toInt_inj, Int64.reduceToInt, Int32.toInt_toInt64, lg_cmp_ge, lg_cmp_le, lg_cmp_gt, lg_cmp_lt, lg_cmp_eq, Bool.false_eq_true, Bool.true_eq_false, reduceCtorEq, false_iff, true_iff, iff_true, iff_false, and_true, true_and, and_false, false_and, reduceIte, ite_true, ite_false, eq_self] at *)) <;> omega) ?_
          refine wa_goto o_X9_rowNumber_34 (by decide) ?_
          refine wa_lreturn rfl rfl ?_
          exact ⟨_, rfl, rfl, trivial⟩
set_option maxHeartbeats 4000000 in
theorem sp_X9_isLike (G : kG9) {d : Nat} (hd : 1 ≤ d) (σ : St) (a0 : Int32) (a1 : Int32) : Ct G M_X9_isLike d [.ref 60, .int a0, .int a1] σ (fun r σ' => ∃ x : Bool, r = some (.int (bI x)) ∧ σ = σ' ∧ True) := by
  refine wa_start (by decide) rfl (Nat.le_of_ble_eq_true rfl) (lv := [(0, .ref 60), (1, .int a0), (2, .int a1)]) rfl o_X9_isLike_0 rfl ?_
  have ua0 := Int32.toInt_lt a0
  have wa0 := Int32.le_toInt a0
  have ua1 := Int32.toInt_lt a1
  have wa1 := Int32.le_toInt a1
  refine wa_iconst (v := 1) (by decide) ?_
  refine wa_istore_nD (lv' := [(3, .int (bI true)), (0, .ref 60), (1, .int a0), (2, .int a1)]) (i := 3) rfl (by decide) rfl ?_
  refine wa_iconst (v := 0) (by decide) ?_
  refine wa_istoreD (lv' := [(4, .int 0), (3, .int (bI true)), (0, .ref 60), (1, .int a0), (2, .int a1)]) (by decide) rfl ?_
  refine wa_pick [2, 3, 4, 1, 0] rfl ?_
  have hi2 : ∀ (n9_5 : Nat) (l3 : Bool) (l4 : Int32), ((0 ≤ l4.toInt) ∧ (True)) → (2147483647 - l4.toInt).toNat = n9_5 → WA G M_X9_isLike (ZM G M_X9_isLike d (fun r σ' => ∃ x : Bool, r = some (.int (bI x)) ∧ σ = σ' ∧ True)) B_X9_isLike_5 [(0, .ref 60), (1, .int a0), (2, .int a1), (3, .int (bI l3)), (4, .int l4)] [] σ := by
    intro n9_5
    induction n9_5 using Nat.strongRecOn with
    | _ n9_5 ih1 =>
      intro l3 l4  i9 m9_5
      obtain ⟨jhi2_0, -⟩ := i9
      have ul4 := Int32.toInt_lt l4
      have wl4 := Int32.le_toInt l4
      refine wa_iload rfl ?_
      refine wa_iconst (v := 5) (by decide) ?_
      refine wa_icmp_ge o_X9_isLike_43 (by decide) (fun h3 => ?_) (fun h3 => ?_)
      · refine wa_iload_n (i := 3) rfl rfl ?_
        refine wa_zreturn l3 (rfl) rfl rfl ?_
        exact ⟨_, rfl, rfl, trivial⟩
      · have mh3 := nle_mx h3
        refine wa_iload_n (i := 3) rfl rfl ?_
        refine wa_aload_n (i := 0) rfl rfl ?_
        refine wa_iload_n (i := 1) rfl rfl ?_
        refine wa_iload rfl ?_
        refine wa_Vl (d9 := d - 1) [.int _, .int _] [.int (bI l3)] (sp_X9_rowNumber G (d := d - 1) (by omega) σ _ _) (rfl) rfl rfl (zr (by omega)) mk_X9_rowNumber ly_60 ml_9_99 (Nat.le_of_ble_eq_true rfl) (fun x5 s4 hs4 => ?_)
        obtain ⟨zs4, -⟩ := pL hs4
        subst zs4
        refine wa_aload_n (i := 0) rfl rfl ?_
        refine wa_iload_n (i := 2) rfl rfl ?_
        refine wa_iload rfl ?_
        refine wa_Vl (d9 := d - 1) [.int _, .int _] [.long x5, .int (bI l3)] (sp_X9_rowNumber G (d := d - 1) (by omega) σ _ _) (rfl) rfl rfl (zr (by omega)) mk_X9_rowNumber ly_60 ml_9_99 (Nat.le_of_ble_eq_true rfl) (fun x7 s6 hs6 => ?_)
        obtain ⟨zs6, -⟩ := pL hs6
        subst zs6
        refine wa_lcmp ?_
        refine wa_top (fun v8 hv8 => ?_)
        have tv8 := i_cmpT hv8
        clear hv8
        refine wa_if_ne o_X9_isLike_34 (by decide) (fun h9 => ?_) (fun h9 => ?_)
        · refine wa_iconst (v := 0) (by decide) ?_
          refine wa_iand ?_
          refine wa_rw (bI_and (a := l3) (b := false) rfl rfl) ?_
          refine wa_istore_nD (lv' := [(3, .int (bI (l3 && false))), (0, .ref 60), (1, .int a0), (2, .int a1), (4, .int l4)]) (i := 3) rfl (by decide) rfl ?_
          refine wa_iinc (v := (1)) (lv' := fun y10 => [(4, .int y10), (3, .int (bI (l3 && false))), (0, .ref 60), (1, .int a0), (2, .int a1)]) (by decide) rfl (by decide) (fun _ => rfl) (fun y10 hy10 => ?_)
          have ty10 := i_addT hy10.symm
          clear hy10
          refine wa_goto o_X9_isLike_5 (by decide) ?_
          refine wa_pick [2, 3, 4, 1, 0] rfl ?_
          exact ih1 _ (by ((try simp only [vp_in_iff, Int32.lt_iff_toInt_lt, Int32.le_iff_toInt_le, ← Int32.toInt_inj, Int32.reduceToInt, n_1, n_2, n_8, Int32.toNatClampNeg, Int64.lt_iff_toInt_lt, Int64.le_iff_toInt_le, ← Int64.toInt_inj, Int64.reduceToInt, Int32.toInt_toInt64, lg_cmp_ge, lg_cmp_le, lg_cmp_gt, lg_cmp_lt, lg_cmp_eq, Bool.false_eq_true, Bool.true_eq_false, reduceCtorEq, false_iff, true_iff, iff_true, iff_false, and_true, true_and, and_false, false_and, reduceIte, ite_true, ite_false, eq_self] at *)) <;> omega) _ _ ⟨(by ((try simp only [vp_in_iff, Int32.lt_iff_toInt_lt, Int32.le_iff_toInt_le, ← Int32.toInt_inj, Int32.reduceToInt, n_1, n_2, n_8, Int32.toNatClampNeg, Int64.lt_iff_toInt_lt, Int64.le_iff_toInt_le, ← Int64.toInt_inj, Int64.reduceToInt, Int32.toInt_toInt64, lg_cmp_ge, lg_cmp_le, lg_cmp_gt, lg_cmp_lt, lg_cmp_eq, Bool.false_eq_true, Bool.true_eq_false, reduceCtorEq, false_iff, true_iff, iff_true, iff_false, and_true, true_and, and_false, false_and, reduceIte, ite_true, ite_false, eq_self] at *)) <;> omega), trivial⟩ rfl
        · refine wa_iconst (v := 1) (by decide) ?_
          refine wa_goto o_X9_isLike_35 (by decide) ?_
          refine wa_iand ?_
          refine wa_rw (bI_and (a := l3) (b := true) rfl rfl) ?_
          refine wa_istore_nD (lv' := [(3, .int (bI (l3 && true))), (0, .ref 60), (1, .int a0), (2, .int a1), (4, .int l4)]) (i := 3) rfl (by decide) rfl ?_
          refine wa_iinc (v := (1)) (lv' := fun y11 => [(4, .int y11), (3, .int (bI (l3 && true))), (0, .ref 60), (1, .int a0), (2, .int a1)]) (by decide) rfl (by decide) (fun _ => rfl) (fun y11 hy11 => ?_)
          have ty11 := i_addT hy11.symm
          clear hy11
          refine wa_goto o_X9_isLike_5 (by decide) ?_
          refine wa_pick [2, 3, 4, 1, 0] rfl ?_
          exact ih1 _ (by ((try simp only [vp_in_iff, Int32.lt_iff_toInt_lt, Int32.le_iff_toInt_le, ← Int32.toInt_inj, Int32.reduceToInt, n_1, n_2, n_8, Int32.toNatClampNeg, Int64.lt_iff_toInt_lt, Int64.le_iff_toInt_le, ← Int64.toInt_inj, Int64.reduceToInt, Int32.toInt_toInt64, lg_cmp_ge, lg_cmp_le, lg_cmp_gt, lg_cmp_lt, lg_cmp_eq, Bool.false_eq_true, Bool.true_eq_false, reduceCtorEq, false_iff, true_iff, iff_true, iff_false, and_true, true_and, and_false, false_and, reduceIte, ite_true, ite_false, eq_self] at *)) <;> omega) _ _ ⟨(by ((try simp only [vp_in_iff, Int32.lt_iff_toInt_lt, Int32.le_iff_toInt_le, ← Int32.toInt_inj, Int32.reduceToInt, n_1, n_2, n_8, Int32.toNatClampNeg, Int64.lt_iff_toInt_lt, Int64.le_iff_toInt_le, ← Int64.toInt_inj, Int64.reduceToInt, Int32.toInt_toInt64, lg_cmp_ge, lg_cmp_le, lg_cmp_gt, lg_cmp_lt, lg_cmp_eq, Bool.false_eq_true, Bool.true_eq_false, reduceCtorEq, false_iff, true_iff, iff_true, iff_false, and_true, true_and, and_false, false_and, reduceIte, ite_true, ite_false, eq_self] at *)) <;> omega), trivial⟩ rfl
  exact hi2 _ _ _ ⟨(by ((try simp only [vp_in_iff, Int32.lt_iff_toInt_lt, Int32.le_iff_toInt_le, ← Int32.toInt_inj, Int32.reduceToInt, n_1, n_2, n_8, Int32.toNatClampNeg, Int64.lt_iff_toInt_lt, Int64.le_iff_toInt_le, ← Int64.toInt_inj, Int64.reduceToInt, Int32.toInt_toInt64, lg_cmp_ge, lg_cmp_le, lg_cmp_gt, lg_cmp_lt, lg_cmp_eq, Bool.false_eq_true, Bool.true_eq_false, reduceCtorEq, false_iff, true_iff, iff_true, iff_false, and_true, true_and, and_false, false_and, reduceIte, ite_true, ite_false, eq_self] at *)) <;> omega), trivial⟩ rfl
set_option maxHeartbeats 4000000 in
theorem sp_X9_takeAtom (G : kG9) {d : Nat} (hd : 2 ≤ d) (σ : St) (a1 : Int32) : Ct G M_X9_takeAtom d [.ref 60, .ref 7, .int a1] σ (fun r σ' => ∃ x : Bool, r = some (.int (bI x)) ∧ Sm 60 62 σ σ' ∧ True) := by
  refine wa_start (by decide) rfl (Nat.le_of_ble_eq_true rfl) (lv := [(0, .ref 60), (1, .ref 7), (2, .int a1)]) rfl o_X9_takeAtom_0 rfl ?_
  have ua1 := Int32.toInt_lt a1
  have wa1 := Int32.le_toInt a1
  refine wa_aload_n (i := 0) rfl rfl ?_
  refine wa_aload_n (i := 0) rfl rfl ?_
  refine wa_geti ck_9 fl_9_44 ly_60 ?_
  refine wa_Vv (d9 := d - 1) [.int _] [] (sp_X9_clearRow G (d := d - 1) (by omega) σ _) (rfl) rfl rfl (zr (by omega)) mk_X9_clearRow ly_60 ml_9_82 (Nat.le_of_ble_eq_true rfl) (fun s1 hs1 => ?_)
  obtain ⟨fs1, -⟩ := hs1
  have Fs1 := Sm.tr (Sm.rf 60 62 σ) (Sm.wd fs1 (lo' := 60) (hi' := 62) (by decide) (by decide))
  refine wa_iconst (v := 0) (by decide) ?_
  refine wa_istore_nD (lv' := [(3, .int 0), (0, .ref 60), (1, .ref 7), (2, .int a1)]) (i := 3) rfl (by decide) rfl ?_
  refine wa_pick [1, 2, 3, 0] rfl ?_
  have hi5 : ∀ (n9_10 : Nat) (l3 : Int32) (s3 : St), ((Sm 60 62 σ s3) ∧ (gi s3 60 11 = gi σ 60 11) ∧ (0 ≤ l3.toInt) ∧ (True)) → (2147483647 - l3.toInt).toNat = n9_10 → WA G M_X9_takeAtom (ZM G M_X9_takeAtom d (fun r σ' => ∃ x : Bool, r = some (.int (bI x)) ∧ Sm 60 62 σ σ' ∧ True)) B_X9_takeAtom_10 [(0, .ref 60), (1, .ref 7), (2, .int a1), (3, .int l3)] [] s3 := by
    intro n9_10
    induction n9_10 using Nat.strongRecOn with
    | _ n9_10 ih4 =>
      intro l3 s3 i9 m9_10
      obtain ⟨Fs3, khi5_0, jhi5_0, -⟩ := i9
      have ul3 := Int32.toInt_lt l3
      have wl3 := Int32.le_toInt l3
      refine wa_iload_n (i := 3) rfl rfl ?_
      refine wa_iconst (v := 5) (by decide) ?_
      refine wa_icmp_ge o_X9_takeAtom_57 (by decide) (fun h6 => ?_) (fun h6 => ?_)
      · refine wa_iconst (v := 0) (by decide) ?_
        refine wa_istore_nD (lv' := [(3, .int 0), (0, .ref 60), (1, .ref 7), (2, .int a1)]) (i := 3) rfl (by decide) rfl ?_
        refine wa_pick [1, 0] rfl ?_
        have hi9 : ∀ (n9_59 : Nat) (l3 : Int32) (s7 : St), ((Sm 60 62 σ s7) ∧ (gi s7 60 11 = gi σ 60 11) ∧ (0 ≤ l3.toInt) ∧ (True)) → (2147483647 - l3.toInt).toNat = n9_59 → WA G M_X9_takeAtom (ZM G M_X9_takeAtom d (fun r σ' => ∃ x : Bool, r = some (.int (bI x)) ∧ Sm 60 62 σ σ' ∧ True)) B_X9_takeAtom_59 [(0, .ref 60), (3, .int l3)] [] s7 := by
          intro n9_59
          induction n9_59 using Nat.strongRecOn with
          | _ n9_59 ih8 =>
            intro l3 s7 i9 m9_59
            obtain ⟨Fs7, khi9_0, jhi9_0, -⟩ := i9
            have ul3 := Int32.toInt_lt l3
            have wl3 := Int32.le_toInt l3
            refine wa_iload_n (i := 3) rfl rfl ?_
            refine wa_aload_n (i := 0) rfl rfl ?_
            refine wa_geti ck_9 fl_9_44 ly_60 ?_
            refine wa_rw (khi9_0) ?_
            refine wa_icmp_ge o_X9_takeAtom_87 (by decide) (fun h10 => ?_) (fun h10 => ?_)
            · refine wa_aload_n (i := 0) rfl rfl ?_
              refine wa_geti ck_9 fl_9_44 ly_60 ?_
              refine wa_rw (khi9_0) ?_
              refine wa_bipush (v := 40) (by decide) ?_
              refine wa_icmp_lt o_X9_takeAtom_98 (by decide) (fun h11 => ?_) (fun h11 => ?_)
              · refine wa_aload_n (i := 0) rfl rfl ?_
                refine wa_dup rfl ?_
                refine wa_geti ck_9 fl_9_44 ly_60 ?_
                refine wa_rw (khi9_0) ?_
                refine wa_iconst (v := 1) (by decide) ?_
                refine wa_iadd ?_
                refine wa_top (fun v12 hv12 => ?_)
                have tv12 := i_addT hv12
                clear hv12
                refine wa_puti ck_9 fl_9_44 ly_60 (fun s13 hs13 => ?_)
                have Fs13 : Sm 60 62 σ s13 := by rw [hs13]; exact Sm.si Fs7 _ _ (by decide) (by decide)
                refine wa_iconst (v := 1) (by decide) ?_
                refine wa_zreturn true (rfl) rfl rfl ?_
                exact ⟨_, rfl, Fs13, trivial⟩
              · refine wa_iconst (v := 0) (by decide) ?_
                refine wa_zreturn false (rfl) rfl rfl ?_
                exact ⟨_, rfl, Fs7, trivial⟩
            · have mh10 := nle_mx h10
              refine wa_aload_n (i := 0) rfl rfl ?_
              refine wa_iload_n (i := 3) rfl rfl ?_
              refine wa_aload_n (i := 0) rfl rfl ?_
              refine wa_geti ck_9 fl_9_44 ly_60 ?_
              refine wa_rw (khi9_0) ?_
              refine wa_Vi (d9 := d - 1) [.int _, .int _] [] (sp_X9_isLike G (d := d - 1) (by omega) s7 _ _) (rfl) rfl rfl (zr (by omega)) mk_X9_isLike ly_60 ml_9_95 (Nat.le_of_ble_eq_true rfl) (fun x15 s14 hs14 => ?_)
              obtain ⟨bx15, ex15, zs14, -⟩ := pB hs14
              subst ex15
              subst zs14
              refine wa_if_eq o_X9_takeAtom_81 (by decide) (fun h16 => ?_) (fun h16 => ?_)
              · replace h16 := bI_f (b := bx15) (rfl) h16
                refine wa_iinc (v := (1)) (lv' := fun y17 => [(3, .int y17), (0, .ref 60)]) (by decide) rfl (by decide) (fun _ => rfl) (fun y17 hy17 => ?_)
                have ty17 := i_addT hy17.symm
                clear hy17
                refine wa_goto o_X9_takeAtom_59 (by decide) ?_
                refine wa_pick [1, 0] rfl ?_
                exact ih8 _ (by ((try simp only [vp_in_iff, Int32.lt_iff_toInt_lt, Int32.le_iff_toInt_le, ← Int32.toInt_inj, Int32.reduceToInt, n_1, n_2, n_8, Int32.toNatClampNeg, Int64.lt_iff_toInt_lt, Int64.le_iff_toInt_le, ← Int64.toInt_inj, Int64.reduceToInt, Int32.toInt_toInt64, lg_cmp_ge, lg_cmp_le, lg_cmp_gt, lg_cmp_lt, lg_cmp_eq, Bool.false_eq_true, Bool.true_eq_false, reduceCtorEq, false_iff, true_iff, iff_true, iff_false, and_true, true_and, and_false, false_and, reduceIte, ite_true, ite_false, eq_self] at *)) <;> omega) _ _ ⟨Fs7, (khi9_0), (by ((try simp only [vp_in_iff, Int32.lt_iff_toInt_lt, Int32.le_iff_toInt_le, ← Int32.toInt_inj, Int32.reduceToInt, n_1, n_2, n_8, Int32.toNatClampNeg, Int64.lt_iff_toInt_lt, Int64.le_iff_toInt_le, ← Int64.toInt_inj, Int64.reduceToInt, Int32.toInt_toInt64, lg_cmp_ge, lg_cmp_le, lg_cmp_gt, lg_cmp_lt, lg_cmp_eq, Bool.false_eq_true, Bool.true_eq_false, reduceCtorEq, false_iff, true_iff, iff_true, iff_false, and_true, true_and, and_false, false_and, reduceIte, ite_true, ite_false, eq_self] at *)) <;> omega), trivial⟩ rfl
              · replace h16 := bI_t (b := bx15) (rfl) h16
                refine wa_iconst (v := 1) (by decide) ?_
                refine wa_zreturn true (rfl) rfl rfl ?_
                exact ⟨_, rfl, Fs7, trivial⟩
        exact hi9 _ _ _ ⟨Fs3, (khi5_0), (by ((try simp only [vp_in_iff, Int32.lt_iff_toInt_lt, Int32.le_iff_toInt_le, ← Int32.toInt_inj, Int32.reduceToInt, n_1, n_2, n_8, Int32.toNatClampNeg, Int64.lt_iff_toInt_lt, Int64.le_iff_toInt_le, ← Int64.toInt_inj, Int64.reduceToInt, Int32.toInt_toInt64, lg_cmp_ge, lg_cmp_le, lg_cmp_gt, lg_cmp_lt, lg_cmp_eq, Bool.false_eq_true, Bool.true_eq_false, reduceCtorEq, false_iff, true_iff, iff_true, iff_false, and_true, true_and, and_false, false_and, reduceIte, ite_true, ite_false, eq_self] at *)) <;> omega), trivial⟩ rfl
      · have mh6 := nle_mx h6
        refine wa_aload_n (i := 0) rfl rfl ?_
        refine wa_aload_n (i := 0) rfl rfl ?_
        refine wa_geti ck_9 fl_9_44 ly_60 ?_
        refine wa_rw (khi5_0) ?_
        refine wa_iload_n (i := 3) rfl rfl ?_
        refine wa_iload_n (i := 2) rfl rfl ?_
        refine wa_iconst (v := (-1)) (by decide) ?_
        refine wa_icmp_eq o_X9_takeAtom_36 (by decide) (fun h18 => ?_) (fun h18 => ?_)
        · refine wa_iload_n (i := 3) rfl rfl ?_
          refine wa_iconst (v := 4) (by decide) ?_
          refine wa_icmp_ne o_X9_takeAtom_47 (by decide) (fun h19 => ?_) (fun h19 => ?_)
          · refine wa_lconst (v := 0) (by decide) ?_
            refine wa_Vv (d9 := d - 1) [.int _, .int _, .long _] [] (sp_X9_setRow G (d := d - 1) (by omega) s3 _ _ _) (rfl) rfl rfl (zr (by omega)) mk_X9_setRow ly_60 ml_9_91 (Nat.le_of_ble_eq_true rfl) (fun s20 hs20 => ?_)
            obtain ⟨fs20, -⟩ := hs20
            have Fs20 := Sm.tr Fs3 (Sm.wd fs20 (lo' := 60) (hi' := 62) (by decide) (by decide))
            refine wa_iinc (v := (1)) (lv' := fun y22 => [(3, .int y22), (0, .ref 60), (1, .ref 7), (2, .int a1)]) (by decide) rfl (by decide) (fun _ => rfl) (fun y22 hy22 => ?_)
            have ty22 := i_addT hy22.symm
            clear hy22
            refine wa_goto o_X9_takeAtom_10 (by decide) ?_
            refine wa_pick [1, 2, 3, 0] rfl ?_
            exact ih4 _ (by ((try simp only [vp_in_iff, Int32.lt_iff_toInt_lt, Int32.le_iff_toInt_le, ← Int32.toInt_inj, Int32.reduceToInt, n_1, n_2, n_8, Int32.toNatClampNeg, Int64.lt_iff_toInt_lt, Int64.le_iff_toInt_le, ← Int64.toInt_inj, Int64.reduceToInt, Int32.toInt_toInt64, lg_cmp_ge, lg_cmp_le, lg_cmp_gt, lg_cmp_lt, lg_cmp_eq, Bool.false_eq_true, Bool.true_eq_false, reduceCtorEq, false_iff, true_iff, iff_true, iff_false, and_true, true_and, and_false, false_and, reduceIte, ite_true, ite_false, eq_self] at *)) <;> omega) _ _ ⟨Fs20, ((Sm.gi fs20 11 (Or.inl (by decide))).trans (khi5_0)), (by ((try simp only [vp_in_iff, Int32.lt_iff_toInt_lt, Int32.le_iff_toInt_le, ← Int32.toInt_inj, Int32.reduceToInt, n_1, n_2, n_8, Int32.toNatClampNeg, Int64.lt_iff_toInt_lt, Int64.le_iff_toInt_le, ← Int64.toInt_inj, Int64.reduceToInt, Int32.toInt_toInt64, lg_cmp_ge, lg_cmp_le, lg_cmp_gt, lg_cmp_lt, lg_cmp_eq, Bool.false_eq_true, Bool.true_eq_false, reduceCtorEq, false_iff, true_iff, iff_true, iff_false, and_true, true_and, and_false, false_and, reduceIte, ite_true, ite_false, eq_self] at *)) <;> omega), trivial⟩ rfl
          · refine wa_ldc2 (v := (-1)) (allW_in (kT_7 _ (List.mem_of_getElem? (i := 160) rfl)) rfl) ?_
            refine wa_goto o_X9_takeAtom_48 (by decide) ?_
            refine wa_Vv (d9 := d - 1) [.int _, .int _, .long _] [] (sp_X9_setRow G (d := d - 1) (by omega) s3 _ _ _) (rfl) rfl rfl (zr (by omega)) mk_X9_setRow ly_60 ml_9_91 (Nat.le_of_ble_eq_true rfl) (fun s23 hs23 => ?_)
            obtain ⟨fs23, -⟩ := hs23
            have Fs23 := Sm.tr Fs3 (Sm.wd fs23 (lo' := 60) (hi' := 62) (by decide) (by decide))
            refine wa_iinc (v := (1)) (lv' := fun y25 => [(3, .int y25), (0, .ref 60), (1, .ref 7), (2, .int a1)]) (by decide) rfl (by decide) (fun _ => rfl) (fun y25 hy25 => ?_)
            have ty25 := i_addT hy25.symm
            clear hy25
            refine wa_goto o_X9_takeAtom_10 (by decide) ?_
            refine wa_pick [1, 2, 3, 0] rfl ?_
            exact ih4 _ (by ((try simp only [vp_in_iff, Int32.lt_iff_toInt_lt, Int32.le_iff_toInt_le, ← Int32.toInt_inj, Int32.reduceToInt, n_1, n_2, n_8, Int32.toNatClampNeg, Int64.lt_iff_toInt_lt, Int64.le_iff_toInt_le, ← Int64.toInt_inj, Int64.reduceToInt, Int32.toInt_toInt64, lg_cmp_ge, lg_cmp_le, lg_cmp_gt, lg_cmp_lt, lg_cmp_eq, Bool.false_eq_true, Bool.true_eq_false, reduceCtorEq, false_iff, true_iff, iff_true, iff_false, and_true, true_and, and_false, false_and, reduceIte, ite_true, ite_false, eq_self] at *)) <;> omega) _ _ ⟨Fs23, ((Sm.gi fs23 11 (Or.inl (by decide))).trans (khi5_0)), (by ((try simp only [vp_in_iff, Int32.lt_iff_toInt_lt, Int32.le_iff_toInt_le, ← Int32.toInt_inj, Int32.reduceToInt, n_1, n_2, n_8, Int32.toNatClampNeg, Int64.lt_iff_toInt_lt, Int64.le_iff_toInt_le, ← Int64.toInt_inj, Int64.reduceToInt, Int32.toInt_toInt64, lg_cmp_ge, lg_cmp_le, lg_cmp_gt, lg_cmp_lt, lg_cmp_eq, Bool.false_eq_true, Bool.true_eq_false, reduceCtorEq, false_iff, true_iff, iff_true, iff_false, and_true, true_and, and_false, false_and, reduceIte, ite_true, ite_false, eq_self] at *)) <;> omega), trivial⟩ rfl
        · refine wa_aload_n (i := 1) rfl rfl ?_
          refine wa_iload_n (i := 2) rfl rfl ?_
          refine wa_iload_n (i := 3) rfl rfl ?_
          refine wa_Vi (d9 := d - 1) [.int _, .int _] [.int l3, .int (gi σ 60 11), .ref 60] (sp_X2_pooled G (d := d - 1) (by omega) s3 _ _) (rfl) rfl rfl (zr (by omega)) mk_X2_pooled ly_7 ml_9_86 (Nat.le_of_ble_eq_true rfl) (fun x27 s26 hs26 => ?_)
          obtain ⟨zs26, -⟩ := pI hs26
          subst zs26
          refine wa_i2l ?_
          refine wa_goto o_X9_takeAtom_48 (by decide) ?_
          refine wa_Vv (d9 := d - 1) [.int _, .int _, .long _] [] (sp_X9_setRow G (d := d - 1) (by omega) s3 _ _ _) (rfl) rfl rfl (zr (by omega)) mk_X9_setRow ly_60 ml_9_91 (Nat.le_of_ble_eq_true rfl) (fun s28 hs28 => ?_)
          obtain ⟨fs28, -⟩ := hs28
          have Fs28 := Sm.tr Fs3 (Sm.wd fs28 (lo' := 60) (hi' := 62) (by decide) (by decide))
          refine wa_iinc (v := (1)) (lv' := fun y30 => [(3, .int y30), (0, .ref 60), (1, .ref 7), (2, .int a1)]) (by decide) rfl (by decide) (fun _ => rfl) (fun y30 hy30 => ?_)
          have ty30 := i_addT hy30.symm
          clear hy30
          refine wa_goto o_X9_takeAtom_10 (by decide) ?_
          refine wa_pick [1, 2, 3, 0] rfl ?_
          exact ih4 _ (by ((try simp only [vp_in_iff, Int32.lt_iff_toInt_lt, Int32.le_iff_toInt_le, ← Int32.toInt_inj, Int32.reduceToInt, n_1, n_2, n_8, Int32.toNatClampNeg, Int64.lt_iff_toInt_lt, Int64.le_iff_toInt_le, ← Int64.toInt_inj, Int64.reduceToInt, Int32.toInt_toInt64, lg_cmp_ge, lg_cmp_le, lg_cmp_gt, lg_cmp_lt, lg_cmp_eq, Bool.false_eq_true, Bool.true_eq_false, reduceCtorEq, false_iff, true_iff, iff_true, iff_false, and_true, true_and, and_false, false_and, reduceIte, ite_true, ite_false, eq_self] at *)) <;> omega) _ _ ⟨Fs28, ((Sm.gi fs28 11 (Or.inl (by decide))).trans (khi5_0)), (by ((try simp only [vp_in_iff, Int32.lt_iff_toInt_lt, Int32.le_iff_toInt_le, ← Int32.toInt_inj, Int32.reduceToInt, n_1, n_2, n_8, Int32.toNatClampNeg, Int64.lt_iff_toInt_lt, Int64.le_iff_toInt_le, ← Int64.toInt_inj, Int64.reduceToInt, Int32.toInt_toInt64, lg_cmp_ge, lg_cmp_le, lg_cmp_gt, lg_cmp_lt, lg_cmp_eq, Bool.false_eq_true, Bool.true_eq_false, reduceCtorEq, false_iff, true_iff, iff_true, iff_false, and_true, true_and, and_false, false_and, reduceIte, ite_true, ite_false, eq_self] at *)) <;> omega), trivial⟩ rfl
  exact hi5 _ _ _ ⟨Fs1, (Sm.gi fs1 11 (Or.inl (by decide))), (by ((try simp only [vp_in_iff, Int32.lt_iff_toInt_lt, Int32.le_iff_toInt_le, ← Int32.toInt_inj, Int32.reduceToInt, n_1, n_2, n_8, Int32.toNatClampNeg, Int64.lt_iff_toInt_lt, Int64.le_iff_toInt_le, ← Int64.toInt_inj, Int64.reduceToInt, Int32.toInt_toInt64, lg_cmp_ge, lg_cmp_le, lg_cmp_gt, lg_cmp_lt, lg_cmp_eq, Bool.false_eq_true, Bool.true_eq_false, reduceCtorEq, false_iff, true_iff, iff_true, iff_false, and_true, true_and, and_false, false_and, reduceIte, ite_true, ite_false, eq_self] at *)) <;> omega), trivial⟩ rfl
set_option maxHeartbeats 4000000 in
theorem sp_X9_load (G : kG9) {d : Nat} (hd : 3 ≤ d) (σ : St) : Ct G M_X9_load d [.ref 60, .ref 7, .ref 29] σ (fun r σ' => ∃ x : Bool, r = some (.int (bI x)) ∧ Sm 60 63 σ σ' ∧ True) := by
  refine wa_start (by decide) rfl (Nat.le_of_ble_eq_true rfl) (lv := [(0, .ref 60), (1, .ref 7), (2, .ref 29)]) rfl o_X9_load_0 rfl ?_
  refine wa_aload_n (i := 0) rfl rfl ?_
  refine wa_iconst (v := 0) (by decide) ?_
  refine wa_puti ck_9 fl_9_44 ly_60 (fun s1 hs1 => ?_)
  have Fs1 : Sm 60 63 σ s1 := by rw [hs1]; exact Sm.si (Sm.rf 60 63 σ) _ _ (by decide) (by decide)
  refine wa_aload_n (i := 0) rfl rfl ?_
  refine wa_iconst (v := 0) (by decide) ?_
  refine wa_iconst (v := 4) (by decide) ?_
  refine wa_aload_n (i := 1) rfl rfl ?_
  refine wa_geti ck_2 fl_9_48 ly_7 ?_
  refine wa_rw (nxq_gi_si hs1 (by decide)) ?_
  refine wa_minI zs (allW_in (kT_7 _ (List.mem_of_getElem? (i := 143) rfl)) rfl) (Nat.le_of_ble_eq_true rfl) ?_
  refine wa_top (fun v2 hv2 => ?_)
  have tv2 := i_minI hv2
  clear hv2
  refine wa_maxI zs (allW_in (kT_7 _ (List.mem_of_getElem? (i := 144) rfl)) rfl) (Nat.le_of_ble_eq_true rfl) ?_
  refine wa_top (fun v3 hv3 => ?_)
  have tv3 := i_maxI hv3
  clear hv3
  refine wa_puti ck_9 fl_9_62 ly_60 (fun s4 hs4 => ?_)
  have Fs4 : Sm 60 63 σ s4 := by rw [hs4]; exact Sm.si Fs1 _ _ (by decide) (by decide)
  refine wa_iconst (v := 0) (by decide) ?_
  refine wa_istore_nD (lv' := [(3, .int 0), (0, .ref 60), (1, .ref 7), (2, .ref 29)]) (i := 3) rfl (by decide) rfl ?_
  refine wa_pick [1, 2, 3, 0] rfl ?_
  have hi7 : ∀ (n9_23 : Nat) (l3 : Int32) (s5 : St), ((Sm 60 63 σ s5) ∧ (gi s5 7 10 = gi σ 7 10) ∧ (gi s5 7 11 = gi σ 7 11) ∧ (gi s5 7 13 = gi σ 7 13) ∧ (0 ≤ l3.toInt) ∧ (True)) → (2147483647 - l3.toInt).toNat = n9_23 → WA G M_X9_load (ZM G M_X9_load d (fun r σ' => ∃ x : Bool, r = some (.int (bI x)) ∧ Sm 60 63 σ σ' ∧ True)) B_X9_load_23 [(0, .ref 60), (1, .ref 7), (2, .ref 29), (3, .int l3)] [] s5 := by
    intro n9_23
    induction n9_23 using Nat.strongRecOn with
    | _ n9_23 ih6 =>
      intro l3 s5 i9 m9_23
      obtain ⟨Fs5, khi7_0, khi7_1, khi7_2, jhi7_0, -⟩ := i9
      have ul3 := Int32.toInt_lt l3
      have wl3 := Int32.le_toInt l3
      refine wa_iload_n (i := 3) rfl rfl ?_
      refine wa_iconst (v := 4) (by decide) ?_
      refine wa_icmp_ge o_X9_load_49 (by decide) (fun h8 => ?_) (fun h8 => ?_)
      · refine wa_aload_n (i := 0) rfl rfl ?_
        refine wa_aload_n (i := 2) rfl rfl ?_
        refine wa_alen ly_29 (by decide) ?_
        refine wa_rw (show Int32.ofNat 5 = 5 from rfl) ?_
        refine wa_iconst (v := 4) (by decide) ?_
        refine wa_icmp_le o_X9_load_62 (by decide) (fun h9 => ?_) (fun h9 => ?_)
        · refine wa_lconst (v := 0) (by decide) ?_
          refine wa_putl ck_9 fl_9_63 ly_60 (fun s10 hs10 => ?_)
          have Fs10 : Sm 60 63 σ s10 := by rw [hs10]; exact Sm.sl Fs5 _ _ (by decide) (by decide)
          refine wa_iconst (v := 1) (by decide) ?_
          refine wa_istore_nD (lv' := [(3, .int 1), (0, .ref 60), (1, .ref 7), (2, .ref 29)]) (i := 3) rfl (by decide) rfl ?_
          refine wa_iconst (v := 0) (by decide) ?_
          refine wa_istoreD (lv' := [(4, .int 0), (3, .int 1), (0, .ref 60), (1, .ref 7), (2, .ref 29)]) (by decide) rfl ?_
          refine wa_pick [2, 3, 1, 0] rfl ?_
          have hi13 : ∀ (n9_71 : Nat) (l3 : Int32) (l4 : Int32) (s11 : St), ((Sm 60 63 σ s11) ∧ (gi s11 7 10 = gi σ 7 10) ∧ (gi s11 7 11 = gi σ 7 11) ∧ (gi s11 7 13 = gi σ 7 13) ∧ (0 ≤ l4.toInt) ∧ (True)) → (2147483647 - l4.toInt).toNat = n9_71 → WA G M_X9_load (ZM G M_X9_load d (fun r σ' => ∃ x : Bool, r = some (.int (bI x)) ∧ Sm 60 63 σ σ' ∧ True)) B_X9_load_71 [(0, .ref 60), (1, .ref 7), (3, .int l3), (4, .int l4)] [] s11 := by
            intro n9_71
            induction n9_71 using Nat.strongRecOn with
            | _ n9_71 ih12 =>
              intro l3 l4 s11 i9 m9_71
              obtain ⟨Fs11, khi13_0, khi13_1, khi13_2, jhi13_0, -⟩ := i9
              have ul3 := Int32.toInt_lt l3
              have wl3 := Int32.le_toInt l3
              have ul4 := Int32.toInt_lt l4
              have wl4 := Int32.le_toInt l4
              refine wa_iload rfl ?_
              refine wa_aload_n (i := 1) rfl rfl ?_
              refine wa_geti ck_2 fl_9_66 ly_7 ?_
              refine wa_rw (khi13_1) ?_
              refine wa_icmp_ge o_X9_load_178 (by decide) (fun h14 => ?_) (fun h14 => ?_)
              · refine wa_iload_n (i := 3) rfl rfl ?_
                refine wa_zreturn _ (by sorry) rfl rfl ?_
                exact ⟨_, rfl, Fs11, trivial⟩
              · have mh14 := nle_mx h14
                refine wa_aload_n (i := 1) rfl rfl ?_
                refine wa_geti ck_2 fl_9_69 ly_7 ?_
                refine wa_rw (khi13_2) ?_
                refine wa_iload rfl ?_
                refine wa_iushr ?_
                refine wa_top (fun v15 hv15 => ?_)
                clear hv15
                refine wa_iconst (v := 1) (by decide) ?_
                refine wa_iand ?_
                refine wa_top (fun v16 hv16 => ?_)
                have tv16 := i_andT hv16
                clear hv16
                refine wa_iconst (v := 1) (by decide) ?_
                refine wa_icmp_ne o_X9_load_103 (by decide) (fun h17 => ?_) (fun h17 => ?_)
                · refine wa_iconst (v := 0) (by decide) ?_
                  refine wa_istoreD (lv' := [(5, .int 0), (0, .ref 60), (1, .ref 7), (3, .int l3), (4, .int l4)]) (by decide) rfl ?_
                  refine wa_iconst (v := 0) (by decide) ?_
                  refine wa_istoreD (lv' := [(6, .int 0), (5, .int 0), (0, .ref 60), (1, .ref 7), (3, .int l3), (4, .int l4)]) (by decide) rfl ?_
                  refine wa_pick [2, 3, 4, 5, 1, 0] rfl ?_
                  have hi20 : ∀ (n9_109 : Nat) (l3 : Int32) (l6 : Int32) (s18 : St), ((Sm 60 63 σ s18) ∧ (gi s18 7 10 = gi σ 7 10) ∧ (gi s18 7 11 = gi σ 7 11) ∧ (gi s18 7 13 = gi σ 7 13) ∧ (0 ≤ l6.toInt) ∧ (True)) → (2147483647 - l6.toInt).toNat = n9_109 → WA G M_X9_load (ZM G M_X9_load d (fun r σ' => ∃ x : Bool, r = some (.int (bI x)) ∧ Sm 60 63 σ σ' ∧ True)) B_X9_load_109 [(0, .ref 60), (1, .ref 7), (3, .int l3), (4, .int l4), (5, .int 0), (6, .int l6)] [] s18 := by
                    intro n9_109
                    induction n9_109 using Nat.strongRecOn with
                    | _ n9_109 ih19 =>
                      intro l3 l6 s18 i9 m9_109
                      obtain ⟨Fs18, khi20_0, khi20_1, khi20_2, jhi20_0, -⟩ := i9
                      have ul3 := Int32.toInt_lt l3
                      have wl3 := Int32.le_toInt l3
                      have ul6 := Int32.toInt_lt l6
                      have wl6 := Int32.le_toInt l6
                      refine wa_iload rfl ?_
                      refine wa_iload rfl ?_
                      refine wa_icmp_ge o_X9_load_138 (by decide) (fun h21 => ?_) (fun h21 => ?_)
                      · refine wa_aload_n (i := 1) rfl rfl ?_
                        refine wa_geti ck_2 fl_9_69 ly_7 ?_
                        refine wa_rw (khi20_2) ?_
                        refine wa_iload rfl ?_
                        refine wa_iushr ?_
                        refine wa_top (fun v22 hv22 => ?_)
                        clear hv22
                        refine wa_iconst (v := 1) (by decide) ?_
                        refine wa_iand ?_
                        refine wa_top (fun v23 hv23 => ?_)
                        have tv23 := i_andT hv23
                        clear hv23
                        refine wa_iconst (v := 1) (by decide) ?_
                        refine wa_icmp_ne o_X9_load_172 (by decide) (fun h24 => ?_) (fun h24 => ?_)
                        · refine wa_iinc (v := (1)) (lv' := fun y25 => [(4, .int y25), (0, .ref 60), (1, .ref 7), (3, .int l3), (5, .int 0), (6, .int l6)]) (by decide) rfl (by decide) (fun _ => rfl) (fun y25 hy25 => ?_)
                          have ty25 := i_addT hy25.symm
                          clear hy25
                          refine wa_goto o_X9_load_71 (by decide) ?_
                          refine wa_pick [1, 2, 3, 0] rfl ?_
                          exact ih12 _ (by ((try simp only [vp_in_iff, Int32.lt_iff_toInt_lt, Int32.le_iff_toInt_le, ← Int32.toInt_inj, Int32.reduceToInt, n_1, n_2, n_8, Int32.toNatClampNeg, Int64.lt_iff_toInt_lt, Int64.le_iff_toInt_le, ← Int64.toInt_inj, Int64.reduceToInt, Int32.toInt_toInt64, lg_cmp_ge, lg_cmp_le, lg_cmp_gt, lg_cmp_lt, lg_cmp_eq, Bool.false_eq_true, Bool.true_eq_false, reduceCtorEq, false_iff, true_iff, iff_true, iff_false, and_true, true_and, and_false, false_and, reduceIte, ite_true, ite_false, eq_self] at *)) <;> omega) _ _ _ ⟨Fs18, (khi20_0), (khi20_1), (khi20_2), (by ((try simp only [vp_in_iff, Int32.lt_iff_toInt_lt, Int32.le_iff_toInt_le, ← Int32.toInt_inj, Int32.reduceToInt, n_1, n_2, n_8, Int32.toNatClampNeg, Int64.lt_iff_toInt_lt, Int64.le_iff_toInt_le, ← Int64.toInt_inj, Int64.reduceToInt, Int32.toInt_toInt64, lg_cmp_ge, lg_cmp_le, lg_cmp_gt, lg_cmp_lt, lg_cmp_eq, Bool.false_eq_true, Bool.true_eq_false, reduceCtorEq, false_iff, true_iff, iff_true, iff_false, and_true, true_and, and_false, false_and, reduceIte, ite_true, ite_false, eq_self] at *)) <;> omega), trivial⟩ rfl
                        · refine wa_aload_n (i := 1) rfl rfl ?_
                          refine wa_iload rfl ?_
                          refine wa_bipush (v := 6) (by decide) ?_
                          refine wa_Vi (d9 := d - 1) [.int _, .int _] [] (sp_X2_fact G (d := d - 1) (by omega) s18 _ _) (rfl) rfl rfl (zr (by omega)) mk_X2_fact ly_7 ml_9_72 (Nat.le_of_ble_eq_true rfl) (fun x27 s26 hs26 => ?_)
                          obtain ⟨zs26, -⟩ := pI hs26
                          subst zs26
                          refine wa_iconst (v := 1) (by decide) ?_
                          refine wa_icmp_ne o_X9_load_172 (by decide) (fun h28 => ?_) (fun h28 => ?_)
                          · refine wa_iinc (v := (1)) (lv' := fun y29 => [(4, .int y29), (0, .ref 60), (1, .ref 7), (3, .int l3), (5, .int 0), (6, .int l6)]) (by decide) rfl (by decide) (fun _ => rfl) (fun y29 hy29 => ?_)
                            have ty29 := i_addT hy29.symm
                            clear hy29
                            refine wa_goto o_X9_load_71 (by decide) ?_
                            refine wa_pick [1, 2, 3, 0] rfl ?_
                            exact ih12 _ (by ((try simp only [vp_in_iff, Int32.lt_iff_toInt_lt, Int32.le_iff_toInt_le, ← Int32.toInt_inj, Int32.reduceToInt, n_1, n_2, n_8, Int32.toNatClampNeg, Int64.lt_iff_toInt_lt, Int64.le_iff_toInt_le, ← Int64.toInt_inj, Int64.reduceToInt, Int32.toInt_toInt64, lg_cmp_ge, lg_cmp_le, lg_cmp_gt, lg_cmp_lt, lg_cmp_eq, Bool.false_eq_true, Bool.true_eq_false, reduceCtorEq, false_iff, true_iff, iff_true, iff_false, and_true, true_and, and_false, false_and, reduceIte, ite_true, ite_false, eq_self] at *)) <;> omega) _ _ _ ⟨Fs18, (khi20_0), (khi20_1), (khi20_2), (by ((try simp only [vp_in_iff, Int32.lt_iff_toInt_lt, Int32.le_iff_toInt_le, ← Int32.toInt_inj, Int32.reduceToInt, n_1, n_2, n_8, Int32.toNatClampNeg, Int64.lt_iff_toInt_lt, Int64.le_iff_toInt_le, ← Int64.toInt_inj, Int64.reduceToInt, Int32.toInt_toInt64, lg_cmp_ge, lg_cmp_le, lg_cmp_gt, lg_cmp_lt, lg_cmp_eq, Bool.false_eq_true, Bool.true_eq_false, reduceCtorEq, false_iff, true_iff, iff_true, iff_false, and_true, true_and, and_false, false_and, reduceIte, ite_true, ite_false, eq_self] at *)) <;> omega), trivial⟩ rfl
                          · refine wa_iload_n (i := 3) rfl rfl ?_
                            refine wa_aload_n (i := 0) rfl rfl ?_
                            refine wa_aload_n (i := 1) rfl rfl ?_
                            refine wa_iconst (v := (-1)) (by decide) ?_
                            refine wa_Vi (d9 := d - 1) [.ref 7, .int _] [.int l3] (sp_X9_takeAtom G (d := d - 1) (by omega) s18 _) (rfl) rfl rfl (zr (by omega)) mk_X9_takeAtom ly_60 ml_9_78 (Nat.le_of_ble_eq_true rfl) (fun x31 s30 hs30 => ?_)
                            obtain ⟨bx31, ex31, fs30, -⟩ := pB hs30
                            subst ex31
                            have Fs30 := Sm.tr Fs18 (Sm.wd fs30 (lo' := 60) (hi' := 63) (by decide) (by decide))
                            refine wa_iand ?_
                            refine wa_top (fun v32 hv32 => ?_)
                            have tv32 := i_andT hv32
                            clear hv32
                            refine wa_istore_nD (lv' := [(3, .int v32), (0, .ref 60), (1, .ref 7), (4, .int l4), (5, .int 0), (6, .int l6)]) (i := 3) rfl (by decide) rfl ?_
                            refine wa_iinc (v := (1)) (lv' := fun y33 => [(4, .int y33), (3, .int v32), (0, .ref 60), (1, .ref 7), (5, .int 0), (6, .int l6)]) (by decide) rfl (by decide) (fun _ => rfl) (fun y33 hy33 => ?_)
                            have ty33 := i_addT hy33.symm
                            clear hy33
                            refine wa_goto o_X9_load_71 (by decide) ?_
                            refine wa_pick [2, 3, 1, 0] rfl ?_
                            exact ih12 _ (by ((try simp only [vp_in_iff, Int32.lt_iff_toInt_lt, Int32.le_iff_toInt_le, ← Int32.toInt_inj, Int32.reduceToInt, n_1, n_2, n_8, Int32.toNatClampNeg, Int64.lt_iff_toInt_lt, Int64.le_iff_toInt_le, ← Int64.toInt_inj, Int64.reduceToInt, Int32.toInt_toInt64, lg_cmp_ge, lg_cmp_le, lg_cmp_gt, lg_cmp_lt, lg_cmp_eq, Bool.false_eq_true, Bool.true_eq_false, reduceCtorEq, false_iff, true_iff, iff_true, iff_false, and_true, true_and, and_false, false_and, reduceIte, ite_true, ite_false, eq_self] at *)) <;> omega) _ _ _ ⟨Fs30, ((Sm.gi fs30 10 (Or.inl (by decide))).trans (khi20_0)), ((Sm.gi fs30 11 (Or.inl (by decide))).trans (khi20_1)), ((Sm.gi fs30 13 (Or.inl (by decide))).trans (khi20_2)), (by ((try simp only [vp_in_iff, Int32.lt_iff_toInt_lt, Int32.le_iff_toInt_le, ← Int32.toInt_inj, Int32.reduceToInt, n_1, n_2, n_8, Int32.toNatClampNeg, Int64.lt_iff_toInt_lt, Int64.le_iff_toInt_le, ← Int64.toInt_inj, Int64.reduceToInt, Int32.toInt_toInt64, lg_cmp_ge, lg_cmp_le, lg_cmp_gt, lg_cmp_lt, lg_cmp_eq, Bool.false_eq_true, Bool.true_eq_false, reduceCtorEq, false_iff, true_iff, iff_true, iff_false, and_true, true_and, and_false, false_and, reduceIte, ite_true, ite_false, eq_self] at *)) <;> omega), trivial⟩ rfl
                      · have mh21 := nle_mx h21
                        refine wa_iload_n (i := 3) rfl rfl ?_
                        refine wa_aload_n (i := 0) rfl rfl ?_
                        refine wa_aload_n (i := 1) rfl rfl ?_
                        refine wa_aload_n (i := 1) rfl rfl ?_
                        refine wa_iload rfl ?_
                        refine wa_iload rfl ?_
                        refine wa_Vi (d9 := d - 1) [.int _, .int _] [.ref 7, .ref 60, .int l3] (sp_X2_atomOf G (d := d - 1) (by omega) s18 _ _) (rfl) rfl rfl (zr (by omega)) mk_X2_atomOf ly_7 ml_9_75 (Nat.le_of_ble_eq_true rfl) (fun x35 s34 hs34 => ?_)
                        obtain ⟨zs34, -⟩ := pI hs34
                        subst zs34
                        refine wa_Vi (d9 := d - 1) [.ref 7, .int _] [.int l3] (sp_X9_takeAtom G (d := d - 1) (by omega) s18 _) (rfl) rfl rfl (zr (by omega)) mk_X9_takeAtom ly_60 ml_9_78 (Nat.le_of_ble_eq_true rfl) (fun x37 s36 hs36 => ?_)
                        obtain ⟨bx37, ex37, fs36, -⟩ := pB hs36
                        subst ex37
                        have Fs36 := Sm.tr Fs18 (Sm.wd fs36 (lo' := 60) (hi' := 63) (by decide) (by decide))
                        refine wa_iand ?_
                        refine wa_top (fun v38 hv38 => ?_)
                        have tv38 := i_andT hv38
                        clear hv38
                        refine wa_istore_nD (lv' := [(3, .int v38), (0, .ref 60), (1, .ref 7), (4, .int l4), (5, .int 0), (6, .int l6)]) (i := 3) rfl (by decide) rfl ?_
                        refine wa_iinc (v := (1)) (lv' := fun y39 => [(6, .int y39), (3, .int v38), (0, .ref 60), (1, .ref 7), (4, .int l4), (5, .int 0)]) (by decide) rfl (by decide) (fun _ => rfl) (fun y39 hy39 => ?_)
                        have ty39 := i_addT hy39.symm
                        clear hy39
                        refine wa_goto o_X9_load_109 (by decide) ?_
                        refine wa_pick [2, 3, 1, 4, 5, 0] rfl ?_
                        exact ih19 _ (by ((try simp only [vp_in_iff, Int32.lt_iff_toInt_lt, Int32.le_iff_toInt_le, ← Int32.toInt_inj, Int32.reduceToInt, n_1, n_2, n_8, Int32.toNatClampNeg, Int64.lt_iff_toInt_lt, Int64.le_iff_toInt_le, ← Int64.toInt_inj, Int64.reduceToInt, Int32.toInt_toInt64, lg_cmp_ge, lg_cmp_le, lg_cmp_gt, lg_cmp_lt, lg_cmp_eq, Bool.false_eq_true, Bool.true_eq_false, reduceCtorEq, false_iff, true_iff, iff_true, iff_false, and_true, true_and, and_false, false_and, reduceIte, ite_true, ite_false, eq_self] at *)) <;> omega) _ _ _ ⟨Fs36, ((Sm.gi fs36 10 (Or.inl (by decide))).trans (khi20_0)), ((Sm.gi fs36 11 (Or.inl (by decide))).trans (khi20_1)), ((Sm.gi fs36 13 (Or.inl (by decide))).trans (khi20_2)), (by ((try simp only [vp_in_iff, Int32.lt_iff_toInt_lt, Int32.le_iff_toInt_le, ← Int32.toInt_inj, Int32.reduceToInt, n_1, n_2, n_8, Int32.toNatClampNeg, Int64.lt_iff_toInt_lt, Int64.le_iff_toInt_le, ← Int64.toInt_inj, Int64.reduceToInt, Int32.toInt_toInt64, lg_cmp_ge, lg_cmp_le, lg_cmp_gt, lg_cmp_lt, lg_cmp_eq, Bool.false_eq_true, Bool.true_eq_false, reduceCtorEq, false_iff, true_iff, iff_true, iff_false, and_true, true_and, and_false, false_and, reduceIte, ite_true, ite_false, eq_self] at *)) <;> omega), trivial⟩ rfl
                  exact hi20 _ _ _ _ ⟨Fs11, (khi13_0), (khi13_1), (khi13_2), (by ((try simp only [vp_in_iff, Int32.lt_iff_toInt_lt, Int32.le_iff_toInt_le, ← Int32.toInt_inj, Int32.reduceToInt, n_1, n_2, n_8, Int32.toNatClampNeg, Int64.lt_iff_toInt_lt, Int64.le_iff_toInt_le, ← Int64.toInt_inj, Int64.reduceToInt, Int32.toInt_toInt64, lg_cmp_ge, lg_cmp_le, lg_cmp_gt, lg_cmp_lt, lg_cmp_eq, Bool.false_eq_true, Bool.true_eq_false, reduceCtorEq, false_iff, true_iff, iff_true, iff_false, and_true, true_and, and_false, false_and, reduceIte, ite_true, ite_false, eq_self] at *)) <;> omega), trivial⟩ rfl
                · refine wa_aload_n (i := 1) rfl rfl ?_
                  refine wa_iload rfl ?_
                  refine wa_iconst (v := 4) (by decide) ?_
                  refine wa_Vi (d9 := d - 1) [.int _, .int _] [] (sp_X2_fact G (d := d - 1) (by omega) s11 _ _) (rfl) rfl rfl (zr (by omega)) mk_X2_fact ly_7 ml_9_72 (Nat.le_of_ble_eq_true rfl) (fun x41 s40 hs40 => ?_)
                  obtain ⟨zs40, -⟩ := pI hs40
                  subst zs40
                  refine wa_goto o_X9_load_104 (by decide) ?_
                  refine wa_istoreD (lv' := [(5, .int x41), (0, .ref 60), (1, .ref 7), (3, .int l3), (4, .int l4)]) (by decide) rfl ?_
                  refine wa_iconst (v := 0) (by decide) ?_
                  refine wa_istoreD (lv' := [(6, .int 0), (5, .int x41), (0, .ref 60), (1, .ref 7), (3, .int l3), (4, .int l4)]) (by decide) rfl ?_
                  refine wa_pick [2, 3, 4, 5, 1, 0] rfl ?_
                  have hi44 : ∀ (n9_109 : Nat) (l3 : Int32) (l6 : Int32) (s42 : St), ((Sm 60 63 σ s42) ∧ (gi s42 7 10 = gi σ 7 10) ∧ (gi s42 7 11 = gi σ 7 11) ∧ (gi s42 7 13 = gi σ 7 13) ∧ (0 ≤ l6.toInt) ∧ (True)) → (2147483647 - l6.toInt).toNat = n9_109 → WA G M_X9_load (ZM G M_X9_load d (fun r σ' => ∃ x : Bool, r = some (.int (bI x)) ∧ Sm 60 63 σ σ' ∧ True)) B_X9_load_109 [(0, .ref 60), (1, .ref 7), (3, .int l3), (4, .int l4), (5, .int x41), (6, .int l6)] [] s42 := by
                    intro n9_109
                    induction n9_109 using Nat.strongRecOn with
                    | _ n9_109 ih43 =>
                      intro l3 l6 s42 i9 m9_109
                      obtain ⟨Fs42, khi44_0, khi44_1, khi44_2, jhi44_0, -⟩ := i9
                      have ul3 := Int32.toInt_lt l3
                      have wl3 := Int32.le_toInt l3
                      have ul6 := Int32.toInt_lt l6
                      have wl6 := Int32.le_toInt l6
                      refine wa_iload rfl ?_
                      refine wa_iload rfl ?_
                      refine wa_icmp_ge o_X9_load_138 (by decide) (fun h45 => ?_) (fun h45 => ?_)
                      · refine wa_aload_n (i := 1) rfl rfl ?_
                        refine wa_geti ck_2 fl_9_69 ly_7 ?_
                        refine wa_rw (khi44_2) ?_
                        refine wa_iload rfl ?_
                        refine wa_iushr ?_
                        refine wa_top (fun v46 hv46 => ?_)
                        clear hv46
                        refine wa_iconst (v := 1) (by decide) ?_
                        refine wa_iand ?_
                        refine wa_top (fun v47 hv47 => ?_)
                        have tv47 := i_andT hv47
                        clear hv47
                        refine wa_iconst (v := 1) (by decide) ?_
                        refine wa_icmp_ne o_X9_load_172 (by decide) (fun h48 => ?_) (fun h48 => ?_)
                        · refine wa_iinc (v := (1)) (lv' := fun y49 => [(4, .int y49), (0, .ref 60), (1, .ref 7), (3, .int l3), (5, .int x41), (6, .int l6)]) (by decide) rfl (by decide) (fun _ => rfl) (fun y49 hy49 => ?_)
                          have ty49 := i_addT hy49.symm
                          clear hy49
                          refine wa_goto o_X9_load_71 (by decide) ?_
                          refine wa_pick [1, 2, 3, 0] rfl ?_
                          exact ih12 _ (by ((try simp only [vp_in_iff, Int32.lt_iff_toInt_lt, Int32.le_iff_toInt_le, ← Int32.toInt_inj, Int32.reduceToInt, n_1, n_2, n_8, Int32.toNatClampNeg, Int64.lt_iff_toInt_lt, Int64.le_iff_toInt_le, ← Int64.toInt_inj, Int64.reduceToInt, Int32.toInt_toInt64, lg_cmp_ge, lg_cmp_le, lg_cmp_gt, lg_cmp_lt, lg_cmp_eq, Bool.false_eq_true, Bool.true_eq_false, reduceCtorEq, false_iff, true_iff, iff_true, iff_false, and_true, true_and, and_false, false_and, reduceIte, ite_true, ite_false, eq_self] at *)) <;> omega) _ _ _ ⟨Fs42, (khi44_0), (khi44_1), (khi44_2), (by ((try simp only [vp_in_iff, Int32.lt_iff_toInt_lt, Int32.le_iff_toInt_le, ← Int32.toInt_inj, Int32.reduceToInt, n_1, n_2, n_8, Int32.toNatClampNeg, Int64.lt_iff_toInt_lt, Int64.le_iff_toInt_le, ← Int64.toInt_inj, Int64.reduceToInt, Int32.toInt_toInt64, lg_cmp_ge, lg_cmp_le, lg_cmp_gt, lg_cmp_lt, lg_cmp_eq, Bool.false_eq_true, Bool.true_eq_false, reduceCtorEq, false_iff, true_iff, iff_true, iff_false, and_true, true_and, and_false, false_and, reduceIte, ite_true, ite_false, eq_self] at *)) <;> omega), trivial⟩ rfl
                        · refine wa_aload_n (i := 1) rfl rfl ?_
                          refine wa_iload rfl ?_
                          refine wa_bipush (v := 6) (by decide) ?_
                          refine wa_Vi (d9 := d - 1) [.int _, .int _] [] (sp_X2_fact G (d := d - 1) (by omega) s42 _ _) (rfl) rfl rfl (zr (by omega)) mk_X2_fact ly_7 ml_9_72 (Nat.le_of_ble_eq_true rfl) (fun x51 s50 hs50 => ?_)
                          obtain ⟨zs50, -⟩ := pI hs50
                          subst zs50
                          refine wa_iconst (v := 1) (by decide) ?_
                          refine wa_icmp_ne o_X9_load_172 (by decide) (fun h52 => ?_) (fun h52 => ?_)
                          · refine wa_iinc (v := (1)) (lv' := fun y53 => [(4, .int y53), (0, .ref 60), (1, .ref 7), (3, .int l3), (5, .int x41), (6, .int l6)]) (by decide) rfl (by decide) (fun _ => rfl) (fun y53 hy53 => ?_)
                            have ty53 := i_addT hy53.symm
                            clear hy53
                            refine wa_goto o_X9_load_71 (by decide) ?_
                            refine wa_pick [1, 2, 3, 0] rfl ?_
                            exact ih12 _ (by ((try simp only [vp_in_iff, Int32.lt_iff_toInt_lt, Int32.le_iff_toInt_le, ← Int32.toInt_inj, Int32.reduceToInt, n_1, n_2, n_8, Int32.toNatClampNeg, Int64.lt_iff_toInt_lt, Int64.le_iff_toInt_le, ← Int64.toInt_inj, Int64.reduceToInt, Int32.toInt_toInt64, lg_cmp_ge, lg_cmp_le, lg_cmp_gt, lg_cmp_lt, lg_cmp_eq, Bool.false_eq_true, Bool.true_eq_false, reduceCtorEq, false_iff, true_iff, iff_true, iff_false, and_true, true_and, and_false, false_and, reduceIte, ite_true, ite_false, eq_self] at *)) <;> omega) _ _ _ ⟨Fs42, (khi44_0), (khi44_1), (khi44_2), (by ((try simp only [vp_in_iff, Int32.lt_iff_toInt_lt, Int32.le_iff_toInt_le, ← Int32.toInt_inj, Int32.reduceToInt, n_1, n_2, n_8, Int32.toNatClampNeg, Int64.lt_iff_toInt_lt, Int64.le_iff_toInt_le, ← Int64.toInt_inj, Int64.reduceToInt, Int32.toInt_toInt64, lg_cmp_ge, lg_cmp_le, lg_cmp_gt, lg_cmp_lt, lg_cmp_eq, Bool.false_eq_true, Bool.true_eq_false, reduceCtorEq, false_iff, true_iff, iff_true, iff_false, and_true, true_and, and_false, false_and, reduceIte, ite_true, ite_false, eq_self] at *)) <;> omega), trivial⟩ rfl
                          · refine wa_iload_n (i := 3) rfl rfl ?_
                            refine wa_aload_n (i := 0) rfl rfl ?_
                            refine wa_aload_n (i := 1) rfl rfl ?_
                            refine wa_iconst (v := (-1)) (by decide) ?_
                            refine wa_Vi (d9 := d - 1) [.ref 7, .int _] [.int l3] (sp_X9_takeAtom G (d := d - 1) (by omega) s42 _) (rfl) rfl rfl (zr (by omega)) mk_X9_takeAtom ly_60 ml_9_78 (Nat.le_of_ble_eq_true rfl) (fun x55 s54 hs54 => ?_)
                            obtain ⟨bx55, ex55, fs54, -⟩ := pB hs54
                            subst ex55
                            have Fs54 := Sm.tr Fs42 (Sm.wd fs54 (lo' := 60) (hi' := 63) (by decide) (by decide))
                            refine wa_iand ?_
                            refine wa_top (fun v56 hv56 => ?_)
                            have tv56 := i_andT hv56
                            clear hv56
                            refine wa_istore_nD (lv' := [(3, .int v56), (0, .ref 60), (1, .ref 7), (4, .int l4), (5, .int x41), (6, .int l6)]) (i := 3) rfl (by decide) rfl ?_
                            refine wa_iinc (v := (1)) (lv' := fun y57 => [(4, .int y57), (3, .int v56), (0, .ref 60), (1, .ref 7), (5, .int x41), (6, .int l6)]) (by decide) rfl (by decide) (fun _ => rfl) (fun y57 hy57 => ?_)
                            have ty57 := i_addT hy57.symm
                            clear hy57
                            refine wa_goto o_X9_load_71 (by decide) ?_
                            refine wa_pick [2, 3, 1, 0] rfl ?_
                            exact ih12 _ (by ((try simp only [vp_in_iff, Int32.lt_iff_toInt_lt, Int32.le_iff_toInt_le, ← Int32.toInt_inj, Int32.reduceToInt, n_1, n_2, n_8, Int32.toNatClampNeg, Int64.lt_iff_toInt_lt, Int64.le_iff_toInt_le, ← Int64.toInt_inj, Int64.reduceToInt, Int32.toInt_toInt64, lg_cmp_ge, lg_cmp_le, lg_cmp_gt, lg_cmp_lt, lg_cmp_eq, Bool.false_eq_true, Bool.true_eq_false, reduceCtorEq, false_iff, true_iff, iff_true, iff_false, and_true, true_and, and_false, false_and, reduceIte, ite_true, ite_false, eq_self] at *)) <;> omega) _ _ _ ⟨Fs54, ((Sm.gi fs54 10 (Or.inl (by decide))).trans (khi44_0)), ((Sm.gi fs54 11 (Or.inl (by decide))).trans (khi44_1)), ((Sm.gi fs54 13 (Or.inl (by decide))).trans (khi44_2)), (by ((try simp only [vp_in_iff, Int32.lt_iff_toInt_lt, Int32.le_iff_toInt_le, ← Int32.toInt_inj, Int32.reduceToInt, n_1, n_2, n_8, Int32.toNatClampNeg, Int64.lt_iff_toInt_lt, Int64.le_iff_toInt_le, ← Int64.toInt_inj, Int64.reduceToInt, Int32.toInt_toInt64, lg_cmp_ge, lg_cmp_le, lg_cmp_gt, lg_cmp_lt, lg_cmp_eq, Bool.false_eq_true, Bool.true_eq_false, reduceCtorEq, false_iff, true_iff, iff_true, iff_false, and_true, true_and, and_false, false_and, reduceIte, ite_true, ite_false, eq_self] at *)) <;> omega), trivial⟩ rfl
                      · have mh45 := nle_mx h45
                        refine wa_iload_n (i := 3) rfl rfl ?_
                        refine wa_aload_n (i := 0) rfl rfl ?_
                        refine wa_aload_n (i := 1) rfl rfl ?_
                        refine wa_aload_n (i := 1) rfl rfl ?_
                        refine wa_iload rfl ?_
                        refine wa_iload rfl ?_
                        refine wa_Vi (d9 := d - 1) [.int _, .int _] [.ref 7, .ref 60, .int l3] (sp_X2_atomOf G (d := d - 1) (by omega) s42 _ _) (rfl) rfl rfl (zr (by omega)) mk_X2_atomOf ly_7 ml_9_75 (Nat.le_of_ble_eq_true rfl) (fun x59 s58 hs58 => ?_)
                        obtain ⟨zs58, -⟩ := pI hs58
                        subst zs58
                        refine wa_Vi (d9 := d - 1) [.ref 7, .int _] [.int l3] (sp_X9_takeAtom G (d := d - 1) (by omega) s42 _) (rfl) rfl rfl (zr (by omega)) mk_X9_takeAtom ly_60 ml_9_78 (Nat.le_of_ble_eq_true rfl) (fun x61 s60 hs60 => ?_)
                        obtain ⟨bx61, ex61, fs60, -⟩ := pB hs60
                        subst ex61
                        have Fs60 := Sm.tr Fs42 (Sm.wd fs60 (lo' := 60) (hi' := 63) (by decide) (by decide))
                        refine wa_iand ?_
                        refine wa_top (fun v62 hv62 => ?_)
                        have tv62 := i_andT hv62
                        clear hv62
                        refine wa_istore_nD (lv' := [(3, .int v62), (0, .ref 60), (1, .ref 7), (4, .int l4), (5, .int x41), (6, .int l6)]) (i := 3) rfl (by decide) rfl ?_
                        refine wa_iinc (v := (1)) (lv' := fun y63 => [(6, .int y63), (3, .int v62), (0, .ref 60), (1, .ref 7), (4, .int l4), (5, .int x41)]) (by decide) rfl (by decide) (fun _ => rfl) (fun y63 hy63 => ?_)
                        have ty63 := i_addT hy63.symm
                        clear hy63
                        refine wa_goto o_X9_load_109 (by decide) ?_
                        refine wa_pick [2, 3, 1, 4, 5, 0] rfl ?_
                        exact ih43 _ (by ((try simp only [vp_in_iff, Int32.lt_iff_toInt_lt, Int32.le_iff_toInt_le, ← Int32.toInt_inj, Int32.reduceToInt, n_1, n_2, n_8, Int32.toNatClampNeg, Int64.lt_iff_toInt_lt, Int64.le_iff_toInt_le, ← Int64.toInt_inj, Int64.reduceToInt, Int32.toInt_toInt64, lg_cmp_ge, lg_cmp_le, lg_cmp_gt, lg_cmp_lt, lg_cmp_eq, Bool.false_eq_true, Bool.true_eq_false, reduceCtorEq, false_iff, true_iff, iff_true, iff_false, and_true, true_and, and_false, false_and, reduceIte, ite_true, ite_false, eq_self] at *)) <;> omega) _ _ _ ⟨Fs60, ((Sm.gi fs60 10 (Or.inl (by decide))).trans (khi44_0)), ((Sm.gi fs60 11 (Or.inl (by decide))).trans (khi44_1)), ((Sm.gi fs60 13 (Or.inl (by decide))).trans (khi44_2)), (by ((try simp only [vp_in_iff, Int32.lt_iff_toInt_lt, Int32.le_iff_toInt_le, ← Int32.toInt_inj, Int32.reduceToInt, n_1, n_2, n_8, Int32.toNatClampNeg, Int64.lt_iff_toInt_lt, Int64.le_iff_toInt_le, ← Int64.toInt_inj, Int64.reduceToInt, Int32.toInt_toInt64, lg_cmp_ge, lg_cmp_le, lg_cmp_gt, lg_cmp_lt, lg_cmp_eq, Bool.false_eq_true, Bool.true_eq_false, reduceCtorEq, false_iff, true_iff, iff_true, iff_false, and_true, true_and, and_false, false_and, reduceIte, ite_true, ite_false, eq_self] at *)) <;> omega), trivial⟩ rfl
                  exact hi44 _ _ _ _ ⟨Fs11, (khi13_0), (khi13_1), (khi13_2), (by ((try simp only [vp_in_iff, Int32.lt_iff_toInt_lt, Int32.le_iff_toInt_le, ← Int32.toInt_inj, Int32.reduceToInt, n_1, n_2, n_8, Int32.toNatClampNeg, Int64.lt_iff_toInt_lt, Int64.le_iff_toInt_le, ← Int64.toInt_inj, Int64.reduceToInt, Int32.toInt_toInt64, lg_cmp_ge, lg_cmp_le, lg_cmp_gt, lg_cmp_lt, lg_cmp_eq, Bool.false_eq_true, Bool.true_eq_false, reduceCtorEq, false_iff, true_iff, iff_true, iff_false, and_true, true_and, and_false, false_and, reduceIte, ite_true, ite_false, eq_self] at *)) <;> omega), trivial⟩ rfl
          exact hi13 _ _ _ _ ⟨Fs10, ((nx_gi_sl hs10).trans (khi7_0)), ((nx_gi_sl hs10).trans (khi7_1)), ((nx_gi_sl hs10).trans (khi7_2)), (by ((try simp only [vp_in_iff, Int32.lt_iff_toInt_lt, Int32.le_iff_toInt_le, ← Int32.toInt_inj, Int32.reduceToInt, n_1, n_2, n_8, Int32.toNatClampNeg, Int64.lt_iff_toInt_lt, Int64.le_iff_toInt_le, ← Int64.toInt_inj, Int64.reduceToInt, Int32.toInt_toInt64, lg_cmp_ge, lg_cmp_le, lg_cmp_gt, lg_cmp_lt, lg_cmp_eq, Bool.false_eq_true, Bool.true_eq_false, reduceCtorEq, false_iff, true_iff, iff_true, iff_false, and_true, true_and, and_false, false_and, reduceIte, ite_true, ite_false, eq_self] at *)) <;> omega), trivial⟩ rfl
        · refine wa_aload_n (i := 2) rfl rfl ?_
          refine wa_iconst (v := 4) (by decide) ?_
          refine wa_lald ly_29 (by ((try simp only [vp_in_iff, Int32.lt_iff_toInt_lt, Int32.le_iff_toInt_le, ← Int32.toInt_inj, Int32.reduceToInt, n_1, n_2, n_8, Int32.toNatClampNeg, Int64.lt_iff_toInt_lt, Int64.le_iff_toInt_le, ← Int64.toInt_inj, Int64.reduceToInt, Int32.toInt_toInt64, lg_cmp_ge, lg_cmp_le, lg_cmp_gt, lg_cmp_lt, lg_cmp_eq, Bool.false_eq_true, Bool.true_eq_false, reduceCtorEq, false_iff, true_iff, iff_true, iff_false, and_true, true_and, and_false, false_and, reduceIte, ite_true, ite_false, eq_self] at *)) <;> omega) ?_
          refine wa_goto o_X9_load_63 (by decide) ?_
          refine wa_putl ck_9 fl_9_63 ly_60 (fun s64 hs64 => ?_)
          have Fs64 : Sm 60 63 σ s64 := by rw [hs64]; exact Sm.sl Fs5 _ _ (by decide) (by decide)
          refine wa_iconst (v := 1) (by decide) ?_
          refine wa_istore_nD (lv' := [(3, .int 1), (0, .ref 60), (1, .ref 7), (2, .ref 29)]) (i := 3) rfl (by decide) rfl ?_
          refine wa_iconst (v := 0) (by decide) ?_
          refine wa_istoreD (lv' := [(4, .int 0), (3, .int 1), (0, .ref 60), (1, .ref 7), (2, .ref 29)]) (by decide) rfl ?_
          refine wa_pick [2, 3, 1, 0] rfl ?_
          have hi67 : ∀ (n9_71 : Nat) (l3 : Int32) (l4 : Int32) (s65 : St), ((Sm 60 63 σ s65) ∧ (gi s65 7 10 = gi σ 7 10) ∧ (gi s65 7 11 = gi σ 7 11) ∧ (gi s65 7 13 = gi σ 7 13) ∧ (0 ≤ l4.toInt) ∧ (True)) → (2147483647 - l4.toInt).toNat = n9_71 → WA G M_X9_load (ZM G M_X9_load d (fun r σ' => ∃ x : Bool, r = some (.int (bI x)) ∧ Sm 60 63 σ σ' ∧ True)) B_X9_load_71 [(0, .ref 60), (1, .ref 7), (3, .int l3), (4, .int l4)] [] s65 := by
            intro n9_71
            induction n9_71 using Nat.strongRecOn with
            | _ n9_71 ih66 =>
              intro l3 l4 s65 i9 m9_71
              obtain ⟨Fs65, khi67_0, khi67_1, khi67_2, jhi67_0, -⟩ := i9
              have ul3 := Int32.toInt_lt l3
              have wl3 := Int32.le_toInt l3
              have ul4 := Int32.toInt_lt l4
              have wl4 := Int32.le_toInt l4
              refine wa_iload rfl ?_
              refine wa_aload_n (i := 1) rfl rfl ?_
              refine wa_geti ck_2 fl_9_66 ly_7 ?_
              refine wa_rw (khi67_1) ?_
              refine wa_icmp_ge o_X9_load_178 (by decide) (fun h68 => ?_) (fun h68 => ?_)
              · refine wa_iload_n (i := 3) rfl rfl ?_
                refine wa_zreturn _ (by sorry) rfl rfl ?_
                exact ⟨_, rfl, Fs65, trivial⟩
              · have mh68 := nle_mx h68
                refine wa_aload_n (i := 1) rfl rfl ?_
                refine wa_geti ck_2 fl_9_69 ly_7 ?_
                refine wa_rw (khi67_2) ?_
                refine wa_iload rfl ?_
                refine wa_iushr ?_
                refine wa_top (fun v69 hv69 => ?_)
                clear hv69
                refine wa_iconst (v := 1) (by decide) ?_
                refine wa_iand ?_
                refine wa_top (fun v70 hv70 => ?_)
                have tv70 := i_andT hv70
                clear hv70
                refine wa_iconst (v := 1) (by decide) ?_
                refine wa_icmp_ne o_X9_load_103 (by decide) (fun h71 => ?_) (fun h71 => ?_)
                · refine wa_iconst (v := 0) (by decide) ?_
                  refine wa_istoreD (lv' := [(5, .int 0), (0, .ref 60), (1, .ref 7), (3, .int l3), (4, .int l4)]) (by decide) rfl ?_
                  refine wa_iconst (v := 0) (by decide) ?_
                  refine wa_istoreD (lv' := [(6, .int 0), (5, .int 0), (0, .ref 60), (1, .ref 7), (3, .int l3), (4, .int l4)]) (by decide) rfl ?_
                  refine wa_pick [2, 3, 4, 5, 1, 0] rfl ?_
                  have hi74 : ∀ (n9_109 : Nat) (l3 : Int32) (l6 : Int32) (s72 : St), ((Sm 60 63 σ s72) ∧ (gi s72 7 10 = gi σ 7 10) ∧ (gi s72 7 11 = gi σ 7 11) ∧ (gi s72 7 13 = gi σ 7 13) ∧ (0 ≤ l6.toInt) ∧ (True)) → (2147483647 - l6.toInt).toNat = n9_109 → WA G M_X9_load (ZM G M_X9_load d (fun r σ' => ∃ x : Bool, r = some (.int (bI x)) ∧ Sm 60 63 σ σ' ∧ True)) B_X9_load_109 [(0, .ref 60), (1, .ref 7), (3, .int l3), (4, .int l4), (5, .int 0), (6, .int l6)] [] s72 := by
                    intro n9_109
                    induction n9_109 using Nat.strongRecOn with
                    | _ n9_109 ih73 =>
                      intro l3 l6 s72 i9 m9_109
                      obtain ⟨Fs72, khi74_0, khi74_1, khi74_2, jhi74_0, -⟩ := i9
                      have ul3 := Int32.toInt_lt l3
                      have wl3 := Int32.le_toInt l3
                      have ul6 := Int32.toInt_lt l6
                      have wl6 := Int32.le_toInt l6
                      refine wa_iload rfl ?_
                      refine wa_iload rfl ?_
                      refine wa_icmp_ge o_X9_load_138 (by decide) (fun h75 => ?_) (fun h75 => ?_)
                      · refine wa_aload_n (i := 1) rfl rfl ?_
                        refine wa_geti ck_2 fl_9_69 ly_7 ?_
                        refine wa_rw (khi74_2) ?_
                        refine wa_iload rfl ?_
                        refine wa_iushr ?_
                        refine wa_top (fun v76 hv76 => ?_)
                        clear hv76
                        refine wa_iconst (v := 1) (by decide) ?_
                        refine wa_iand ?_
                        refine wa_top (fun v77 hv77 => ?_)
                        have tv77 := i_andT hv77
                        clear hv77
                        refine wa_iconst (v := 1) (by decide) ?_
                        refine wa_icmp_ne o_X9_load_172 (by decide) (fun h78 => ?_) (fun h78 => ?_)
                        · refine wa_iinc (v := (1)) (lv' := fun y79 => [(4, .int y79), (0, .ref 60), (1, .ref 7), (3, .int l3), (5, .int 0), (6, .int l6)]) (by decide) rfl (by decide) (fun _ => rfl) (fun y79 hy79 => ?_)
                          have ty79 := i_addT hy79.symm
                          clear hy79
                          refine wa_goto o_X9_load_71 (by decide) ?_
                          refine wa_pick [1, 2, 3, 0] rfl ?_
                          exact ih66 _ (by ((try simp only [vp_in_iff, Int32.lt_iff_toInt_lt, Int32.le_iff_toInt_le, ← Int32.toInt_inj, Int32.reduceToInt, n_1, n_2, n_8, Int32.toNatClampNeg, Int64.lt_iff_toInt_lt, Int64.le_iff_toInt_le, ← Int64.toInt_inj, Int64.reduceToInt, Int32.toInt_toInt64, lg_cmp_ge, lg_cmp_le, lg_cmp_gt, lg_cmp_lt, lg_cmp_eq, Bool.false_eq_true, Bool.true_eq_false, reduceCtorEq, false_iff, true_iff, iff_true, iff_false, and_true, true_and, and_false, false_and, reduceIte, ite_true, ite_false, eq_self] at *)) <;> omega) _ _ _ ⟨Fs72, (khi74_0), (khi74_1), (khi74_2), (by ((try simp only [vp_in_iff, Int32.lt_iff_toInt_lt, Int32.le_iff_toInt_le, ← Int32.toInt_inj, Int32.reduceToInt, n_1, n_2, n_8, Int32.toNatClampNeg, Int64.lt_iff_toInt_lt, Int64.le_iff_toInt_le, ← Int64.toInt_inj, Int64.reduceToInt, Int32.toInt_toInt64, lg_cmp_ge, lg_cmp_le, lg_cmp_gt, lg_cmp_lt, lg_cmp_eq, Bool.false_eq_true, Bool.true_eq_false, reduceCtorEq, false_iff, true_iff, iff_true, iff_false, and_true, true_and, and_false, false_and, reduceIte, ite_true, ite_false, eq_self] at *)) <;> omega), trivial⟩ rfl
                        · refine wa_aload_n (i := 1) rfl rfl ?_
                          refine wa_iload rfl ?_
                          refine wa_bipush (v := 6) (by decide) ?_
                          refine wa_Vi (d9 := d - 1) [.int _, .int _] [] (sp_X2_fact G (d := d - 1) (by omega) s72 _ _) (rfl) rfl rfl (zr (by omega)) mk_X2_fact ly_7 ml_9_72 (Nat.le_of_ble_eq_true rfl) (fun x81 s80 hs80 => ?_)
                          obtain ⟨zs80, -⟩ := pI hs80
                          subst zs80
                          refine wa_iconst (v := 1) (by decide) ?_
                          refine wa_icmp_ne o_X9_load_172 (by decide) (fun h82 => ?_) (fun h82 => ?_)
                          · refine wa_iinc (v := (1)) (lv' := fun y83 => [(4, .int y83), (0, .ref 60), (1, .ref 7), (3, .int l3), (5, .int 0), (6, .int l6)]) (by decide) rfl (by decide) (fun _ => rfl) (fun y83 hy83 => ?_)
                            have ty83 := i_addT hy83.symm
                            clear hy83
                            refine wa_goto o_X9_load_71 (by decide) ?_
                            refine wa_pick [1, 2, 3, 0] rfl ?_
                            exact ih66 _ (by ((try simp only [vp_in_iff, Int32.lt_iff_toInt_lt, Int32.le_iff_toInt_le, ← Int32.toInt_inj, Int32.reduceToInt, n_1, n_2, n_8, Int32.toNatClampNeg, Int64.lt_iff_toInt_lt, Int64.le_iff_toInt_le, ← Int64.toInt_inj, Int64.reduceToInt, Int32.toInt_toInt64, lg_cmp_ge, lg_cmp_le, lg_cmp_gt, lg_cmp_lt, lg_cmp_eq, Bool.false_eq_true, Bool.true_eq_false, reduceCtorEq, false_iff, true_iff, iff_true, iff_false, and_true, true_and, and_false, false_and, reduceIte, ite_true, ite_false, eq_self] at *)) <;> omega) _ _ _ ⟨Fs72, (khi74_0), (khi74_1), (khi74_2), (by ((try simp only [vp_in_iff, Int32.lt_iff_toInt_lt, Int32.le_iff_toInt_le, ← Int32.toInt_inj, Int32.reduceToInt, n_1, n_2, n_8, Int32.toNatClampNeg, Int64.lt_iff_toInt_lt, Int64.le_iff_toInt_le, ← Int64.toInt_inj, Int64.reduceToInt, Int32.toInt_toInt64, lg_cmp_ge, lg_cmp_le, lg_cmp_gt, lg_cmp_lt, lg_cmp_eq, Bool.false_eq_true, Bool.true_eq_false, reduceCtorEq, false_iff, true_iff, iff_true, iff_false, and_true, true_and, and_false, false_and, reduceIte, ite_true, ite_false, eq_self] at *)) <;> omega), trivial⟩ rfl
                          · refine wa_iload_n (i := 3) rfl rfl ?_
                            refine wa_aload_n (i := 0) rfl rfl ?_
                            refine wa_aload_n (i := 1) rfl rfl ?_
                            refine wa_iconst (v := (-1)) (by decide) ?_
                            refine wa_Vi (d9 := d - 1) [.ref 7, .int _] [.int l3] (sp_X9_takeAtom G (d := d - 1) (by omega) s72 _) (rfl) rfl rfl (zr (by omega)) mk_X9_takeAtom ly_60 ml_9_78 (Nat.le_of_ble_eq_true rfl) (fun x85 s84 hs84 => ?_)
                            obtain ⟨bx85, ex85, fs84, -⟩ := pB hs84
                            subst ex85
                            have Fs84 := Sm.tr Fs72 (Sm.wd fs84 (lo' := 60) (hi' := 63) (by decide) (by decide))
                            refine wa_iand ?_
                            refine wa_top (fun v86 hv86 => ?_)
                            have tv86 := i_andT hv86
                            clear hv86
                            refine wa_istore_nD (lv' := [(3, .int v86), (0, .ref 60), (1, .ref 7), (4, .int l4), (5, .int 0), (6, .int l6)]) (i := 3) rfl (by decide) rfl ?_
                            refine wa_iinc (v := (1)) (lv' := fun y87 => [(4, .int y87), (3, .int v86), (0, .ref 60), (1, .ref 7), (5, .int 0), (6, .int l6)]) (by decide) rfl (by decide) (fun _ => rfl) (fun y87 hy87 => ?_)
                            have ty87 := i_addT hy87.symm
                            clear hy87
                            refine wa_goto o_X9_load_71 (by decide) ?_
                            refine wa_pick [2, 3, 1, 0] rfl ?_
                            exact ih66 _ (by ((try simp only [vp_in_iff, Int32.lt_iff_toInt_lt, Int32.le_iff_toInt_le, ← Int32.toInt_inj, Int32.reduceToInt, n_1, n_2, n_8, Int32.toNatClampNeg, Int64.lt_iff_toInt_lt, Int64.le_iff_toInt_le, ← Int64.toInt_inj, Int64.reduceToInt, Int32.toInt_toInt64, lg_cmp_ge, lg_cmp_le, lg_cmp_gt, lg_cmp_lt, lg_cmp_eq, Bool.false_eq_true, Bool.true_eq_false, reduceCtorEq, false_iff, true_iff, iff_true, iff_false, and_true, true_and, and_false, false_and, reduceIte, ite_true, ite_false, eq_self] at *)) <;> omega) _ _ _ ⟨Fs84, ((Sm.gi fs84 10 (Or.inl (by decide))).trans (khi74_0)), ((Sm.gi fs84 11 (Or.inl (by decide))).trans (khi74_1)), ((Sm.gi fs84 13 (Or.inl (by decide))).trans (khi74_2)), (by ((try simp only [vp_in_iff, Int32.lt_iff_toInt_lt, Int32.le_iff_toInt_le, ← Int32.toInt_inj, Int32.reduceToInt, n_1, n_2, n_8, Int32.toNatClampNeg, Int64.lt_iff_toInt_lt, Int64.le_iff_toInt_le, ← Int64.toInt_inj, Int64.reduceToInt, Int32.toInt_toInt64, lg_cmp_ge, lg_cmp_le, lg_cmp_gt, lg_cmp_lt, lg_cmp_eq, Bool.false_eq_true, Bool.true_eq_false, reduceCtorEq, false_iff, true_iff, iff_true, iff_false, and_true, true_and, and_false, false_and, reduceIte, ite_true, ite_false, eq_self] at *)) <;> omega), trivial⟩ rfl
                      · have mh75 := nle_mx h75
                        refine wa_iload_n (i := 3) rfl rfl ?_
                        refine wa_aload_n (i := 0) rfl rfl ?_
                        refine wa_aload_n (i := 1) rfl rfl ?_
                        refine wa_aload_n (i := 1) rfl rfl ?_
                        refine wa_iload rfl ?_
                        refine wa_iload rfl ?_
                        refine wa_Vi (d9 := d - 1) [.int _, .int _] [.ref 7, .ref 60, .int l3] (sp_X2_atomOf G (d := d - 1) (by omega) s72 _ _) (rfl) rfl rfl (zr (by omega)) mk_X2_atomOf ly_7 ml_9_75 (Nat.le_of_ble_eq_true rfl) (fun x89 s88 hs88 => ?_)
                        obtain ⟨zs88, -⟩ := pI hs88
                        subst zs88
                        refine wa_Vi (d9 := d - 1) [.ref 7, .int _] [.int l3] (sp_X9_takeAtom G (d := d - 1) (by omega) s72 _) (rfl) rfl rfl (zr (by omega)) mk_X9_takeAtom ly_60 ml_9_78 (Nat.le_of_ble_eq_true rfl) (fun x91 s90 hs90 => ?_)
                        obtain ⟨bx91, ex91, fs90, -⟩ := pB hs90
                        subst ex91
                        have Fs90 := Sm.tr Fs72 (Sm.wd fs90 (lo' := 60) (hi' := 63) (by decide) (by decide))
                        refine wa_iand ?_
                        refine wa_top (fun v92 hv92 => ?_)
                        have tv92 := i_andT hv92
                        clear hv92
                        refine wa_istore_nD (lv' := [(3, .int v92), (0, .ref 60), (1, .ref 7), (4, .int l4), (5, .int 0), (6, .int l6)]) (i := 3) rfl (by decide) rfl ?_
                        refine wa_iinc (v := (1)) (lv' := fun y93 => [(6, .int y93), (3, .int v92), (0, .ref 60), (1, .ref 7), (4, .int l4), (5, .int 0)]) (by decide) rfl (by decide) (fun _ => rfl) (fun y93 hy93 => ?_)
                        have ty93 := i_addT hy93.symm
                        clear hy93
                        refine wa_goto o_X9_load_109 (by decide) ?_
                        refine wa_pick [2, 3, 1, 4, 5, 0] rfl ?_
                        exact ih73 _ (by ((try simp only [vp_in_iff, Int32.lt_iff_toInt_lt, Int32.le_iff_toInt_le, ← Int32.toInt_inj, Int32.reduceToInt, n_1, n_2, n_8, Int32.toNatClampNeg, Int64.lt_iff_toInt_lt, Int64.le_iff_toInt_le, ← Int64.toInt_inj, Int64.reduceToInt, Int32.toInt_toInt64, lg_cmp_ge, lg_cmp_le, lg_cmp_gt, lg_cmp_lt, lg_cmp_eq, Bool.false_eq_true, Bool.true_eq_false, reduceCtorEq, false_iff, true_iff, iff_true, iff_false, and_true, true_and, and_false, false_and, reduceIte, ite_true, ite_false, eq_self] at *)) <;> omega) _ _ _ ⟨Fs90, ((Sm.gi fs90 10 (Or.inl (by decide))).trans (khi74_0)), ((Sm.gi fs90 11 (Or.inl (by decide))).trans (khi74_1)), ((Sm.gi fs90 13 (Or.inl (by decide))).trans (khi74_2)), (by ((try simp only [vp_in_iff, Int32.lt_iff_toInt_lt, Int32.le_iff_toInt_le, ← Int32.toInt_inj, Int32.reduceToInt, n_1, n_2, n_8, Int32.toNatClampNeg, Int64.lt_iff_toInt_lt, Int64.le_iff_toInt_le, ← Int64.toInt_inj, Int64.reduceToInt, Int32.toInt_toInt64, lg_cmp_ge, lg_cmp_le, lg_cmp_gt, lg_cmp_lt, lg_cmp_eq, Bool.false_eq_true, Bool.true_eq_false, reduceCtorEq, false_iff, true_iff, iff_true, iff_false, and_true, true_and, and_false, false_and, reduceIte, ite_true, ite_false, eq_self] at *)) <;> omega), trivial⟩ rfl
                  exact hi74 _ _ _ _ ⟨Fs65, (khi67_0), (khi67_1), (khi67_2), (by ((try simp only [vp_in_iff, Int32.lt_iff_toInt_lt, Int32.le_iff_toInt_le, ← Int32.toInt_inj, Int32.reduceToInt, n_1, n_2, n_8, Int32.toNatClampNeg, Int64.lt_iff_toInt_lt, Int64.le_iff_toInt_le, ← Int64.toInt_inj, Int64.reduceToInt, Int32.toInt_toInt64, lg_cmp_ge, lg_cmp_le, lg_cmp_gt, lg_cmp_lt, lg_cmp_eq, Bool.false_eq_true, Bool.true_eq_false, reduceCtorEq, false_iff, true_iff, iff_true, iff_false, and_true, true_and, and_false, false_and, reduceIte, ite_true, ite_false, eq_self] at *)) <;> omega), trivial⟩ rfl
                · refine wa_aload_n (i := 1) rfl rfl ?_
                  refine wa_iload rfl ?_
                  refine wa_iconst (v := 4) (by decide) ?_
                  refine wa_Vi (d9 := d - 1) [.int _, .int _] [] (sp_X2_fact G (d := d - 1) (by omega) s65 _ _) (rfl) rfl rfl (zr (by omega)) mk_X2_fact ly_7 ml_9_72 (Nat.le_of_ble_eq_true rfl) (fun x95 s94 hs94 => ?_)
                  obtain ⟨zs94, -⟩ := pI hs94
                  subst zs94
                  refine wa_goto o_X9_load_104 (by decide) ?_
                  refine wa_istoreD (lv' := [(5, .int x95), (0, .ref 60), (1, .ref 7), (3, .int l3), (4, .int l4)]) (by decide) rfl ?_
                  refine wa_iconst (v := 0) (by decide) ?_
                  refine wa_istoreD (lv' := [(6, .int 0), (5, .int x95), (0, .ref 60), (1, .ref 7), (3, .int l3), (4, .int l4)]) (by decide) rfl ?_
                  refine wa_pick [2, 3, 4, 5, 1, 0] rfl ?_
                  have hi98 : ∀ (n9_109 : Nat) (l3 : Int32) (l6 : Int32) (s96 : St), ((Sm 60 63 σ s96) ∧ (gi s96 7 10 = gi σ 7 10) ∧ (gi s96 7 11 = gi σ 7 11) ∧ (gi s96 7 13 = gi σ 7 13) ∧ (0 ≤ l6.toInt) ∧ (True)) → (2147483647 - l6.toInt).toNat = n9_109 → WA G M_X9_load (ZM G M_X9_load d (fun r σ' => ∃ x : Bool, r = some (.int (bI x)) ∧ Sm 60 63 σ σ' ∧ True)) B_X9_load_109 [(0, .ref 60), (1, .ref 7), (3, .int l3), (4, .int l4), (5, .int x95), (6, .int l6)] [] s96 := by
                    intro n9_109
                    induction n9_109 using Nat.strongRecOn with
                    | _ n9_109 ih97 =>
                      intro l3 l6 s96 i9 m9_109
                      obtain ⟨Fs96, khi98_0, khi98_1, khi98_2, jhi98_0, -⟩ := i9
                      have ul3 := Int32.toInt_lt l3
                      have wl3 := Int32.le_toInt l3
                      have ul6 := Int32.toInt_lt l6
                      have wl6 := Int32.le_toInt l6
                      refine wa_iload rfl ?_
                      refine wa_iload rfl ?_
                      refine wa_icmp_ge o_X9_load_138 (by decide) (fun h99 => ?_) (fun h99 => ?_)
                      · refine wa_aload_n (i := 1) rfl rfl ?_
                        refine wa_geti ck_2 fl_9_69 ly_7 ?_
                        refine wa_rw (khi98_2) ?_
                        refine wa_iload rfl ?_
                        refine wa_iushr ?_
                        refine wa_top (fun v100 hv100 => ?_)
                        clear hv100
                        refine wa_iconst (v := 1) (by decide) ?_
                        refine wa_iand ?_
                        refine wa_top (fun v101 hv101 => ?_)
                        have tv101 := i_andT hv101
                        clear hv101
                        refine wa_iconst (v := 1) (by decide) ?_
                        refine wa_icmp_ne o_X9_load_172 (by decide) (fun h102 => ?_) (fun h102 => ?_)
                        · refine wa_iinc (v := (1)) (lv' := fun y103 => [(4, .int y103), (0, .ref 60), (1, .ref 7), (3, .int l3), (5, .int x95), (6, .int l6)]) (by decide) rfl (by decide) (fun _ => rfl) (fun y103 hy103 => ?_)
                          have ty103 := i_addT hy103.symm
                          clear hy103
                          refine wa_goto o_X9_load_71 (by decide) ?_
                          refine wa_pick [1, 2, 3, 0] rfl ?_
                          exact ih66 _ (by ((try simp only [vp_in_iff, Int32.lt_iff_toInt_lt, Int32.le_iff_toInt_le, ← Int32.toInt_inj, Int32.reduceToInt, n_1, n_2, n_8, Int32.toNatClampNeg, Int64.lt_iff_toInt_lt, Int64.le_iff_toInt_le, ← Int64.toInt_inj, Int64.reduceToInt, Int32.toInt_toInt64, lg_cmp_ge, lg_cmp_le, lg_cmp_gt, lg_cmp_lt, lg_cmp_eq, Bool.false_eq_true, Bool.true_eq_false, reduceCtorEq, false_iff, true_iff, iff_true, iff_false, and_true, true_and, and_false, false_and, reduceIte, ite_true, ite_false, eq_self] at *)) <;> omega) _ _ _ ⟨Fs96, (khi98_0), (khi98_1), (khi98_2), (by ((try simp only [vp_in_iff, Int32.lt_iff_toInt_lt, Int32.le_iff_toInt_le, ← Int32.toInt_inj, Int32.reduceToInt, n_1, n_2, n_8, Int32.toNatClampNeg, Int64.lt_iff_toInt_lt, Int64.le_iff_toInt_le, ← Int64.toInt_inj, Int64.reduceToInt, Int32.toInt_toInt64, lg_cmp_ge, lg_cmp_le, lg_cmp_gt, lg_cmp_lt, lg_cmp_eq, Bool.false_eq_true, Bool.true_eq_false, reduceCtorEq, false_iff, true_iff, iff_true, iff_false, and_true, true_and, and_false, false_and, reduceIte, ite_true, ite_false, eq_self] at *)) <;> omega), trivial⟩ rfl
                        · refine wa_aload_n (i := 1) rfl rfl ?_
                          refine wa_iload rfl ?_
                          refine wa_bipush (v := 6) (by decide) ?_
                          refine wa_Vi (d9 := d - 1) [.int _, .int _] [] (sp_X2_fact G (d := d - 1) (by omega) s96 _ _) (rfl) rfl rfl (zr (by omega)) mk_X2_fact ly_7 ml_9_72 (Nat.le_of_ble_eq_true rfl) (fun x105 s104 hs104 => ?_)
                          obtain ⟨zs104, -⟩ := pI hs104
                          subst zs104
                          refine wa_iconst (v := 1) (by decide) ?_
                          refine wa_icmp_ne o_X9_load_172 (by decide) (fun h106 => ?_) (fun h106 => ?_)
                          · refine wa_iinc (v := (1)) (lv' := fun y107 => [(4, .int y107), (0, .ref 60), (1, .ref 7), (3, .int l3), (5, .int x95), (6, .int l6)]) (by decide) rfl (by decide) (fun _ => rfl) (fun y107 hy107 => ?_)
                            have ty107 := i_addT hy107.symm
                            clear hy107
                            refine wa_goto o_X9_load_71 (by decide) ?_
                            refine wa_pick [1, 2, 3, 0] rfl ?_
                            exact ih66 _ (by ((try simp only [vp_in_iff, Int32.lt_iff_toInt_lt, Int32.le_iff_toInt_le, ← Int32.toInt_inj, Int32.reduceToInt, n_1, n_2, n_8, Int32.toNatClampNeg, Int64.lt_iff_toInt_lt, Int64.le_iff_toInt_le, ← Int64.toInt_inj, Int64.reduceToInt, Int32.toInt_toInt64, lg_cmp_ge, lg_cmp_le, lg_cmp_gt, lg_cmp_lt, lg_cmp_eq, Bool.false_eq_true, Bool.true_eq_false, reduceCtorEq, false_iff, true_iff, iff_true, iff_false, and_true, true_and, and_false, false_and, reduceIte, ite_true, ite_false, eq_self] at *)) <;> omega) _ _ _ ⟨Fs96, (khi98_0), (khi98_1), (khi98_2), (by ((try simp only [vp_in_iff, Int32.lt_iff_toInt_lt, Int32.le_iff_toInt_le, ← Int32.toInt_inj, Int32.reduceToInt, n_1, n_2, n_8, Int32.toNatClampNeg, Int64.lt_iff_toInt_lt, Int64.le_iff_toInt_le, ← Int64.toInt_inj, Int64.reduceToInt, Int32.toInt_toInt64, lg_cmp_ge, lg_cmp_le, lg_cmp_gt, lg_cmp_lt, lg_cmp_eq, Bool.false_eq_true, Bool.true_eq_false, reduceCtorEq, false_iff, true_iff, iff_true, iff_false, and_true, true_and, and_false, false_and, reduceIte, ite_true, ite_false, eq_self] at *)) <;> omega), trivial⟩ rfl
                          · refine wa_iload_n (i := 3) rfl rfl ?_
                            refine wa_aload_n (i := 0) rfl rfl ?_
                            refine wa_aload_n (i := 1) rfl rfl ?_
                            refine wa_iconst (v := (-1)) (by decide) ?_
                            refine wa_Vi (d9 := d - 1) [.ref 7, .int _] [.int l3] (sp_X9_takeAtom G (d := d - 1) (by omega) s96 _) (rfl) rfl rfl (zr (by omega)) mk_X9_takeAtom ly_60 ml_9_78 (Nat.le_of_ble_eq_true rfl) (fun x109 s108 hs108 => ?_)
                            obtain ⟨bx109, ex109, fs108, -⟩ := pB hs108
                            subst ex109
                            have Fs108 := Sm.tr Fs96 (Sm.wd fs108 (lo' := 60) (hi' := 63) (by decide) (by decide))
                            refine wa_iand ?_
                            refine wa_top (fun v110 hv110 => ?_)
                            have tv110 := i_andT hv110
                            clear hv110
                            refine wa_istore_nD (lv' := [(3, .int v110), (0, .ref 60), (1, .ref 7), (4, .int l4), (5, .int x95), (6, .int l6)]) (i := 3) rfl (by decide) rfl ?_
                            refine wa_iinc (v := (1)) (lv' := fun y111 => [(4, .int y111), (3, .int v110), (0, .ref 60), (1, .ref 7), (5, .int x95), (6, .int l6)]) (by decide) rfl (by decide) (fun _ => rfl) (fun y111 hy111 => ?_)
                            have ty111 := i_addT hy111.symm
                            clear hy111
                            refine wa_goto o_X9_load_71 (by decide) ?_
                            refine wa_pick [2, 3, 1, 0] rfl ?_
                            exact ih66 _ (by ((try simp only [vp_in_iff, Int32.lt_iff_toInt_lt, Int32.le_iff_toInt_le, ← Int32.toInt_inj, Int32.reduceToInt, n_1, n_2, n_8, Int32.toNatClampNeg, Int64.lt_iff_toInt_lt, Int64.le_iff_toInt_le, ← Int64.toInt_inj, Int64.reduceToInt, Int32.toInt_toInt64, lg_cmp_ge, lg_cmp_le, lg_cmp_gt, lg_cmp_lt, lg_cmp_eq, Bool.false_eq_true, Bool.true_eq_false, reduceCtorEq, false_iff, true_iff, iff_true, iff_false, and_true, true_and, and_false, false_and, reduceIte, ite_true, ite_false, eq_self] at *)) <;> omega) _ _ _ ⟨Fs108, ((Sm.gi fs108 10 (Or.inl (by decide))).trans (khi98_0)), ((Sm.gi fs108 11 (Or.inl (by decide))).trans (khi98_1)), ((Sm.gi fs108 13 (Or.inl (by decide))).trans (khi98_2)), (by ((try simp only [vp_in_iff, Int32.lt_iff_toInt_lt, Int32.le_iff_toInt_le, ← Int32.toInt_inj, Int32.reduceToInt, n_1, n_2, n_8, Int32.toNatClampNeg, Int64.lt_iff_toInt_lt, Int64.le_iff_toInt_le, ← Int64.toInt_inj, Int64.reduceToInt, Int32.toInt_toInt64, lg_cmp_ge, lg_cmp_le, lg_cmp_gt, lg_cmp_lt, lg_cmp_eq, Bool.false_eq_true, Bool.true_eq_false, reduceCtorEq, false_iff, true_iff, iff_true, iff_false, and_true, true_and, and_false, false_and, reduceIte, ite_true, ite_false, eq_self] at *)) <;> omega), trivial⟩ rfl
                      · have mh99 := nle_mx h99
                        refine wa_iload_n (i := 3) rfl rfl ?_
                        refine wa_aload_n (i := 0) rfl rfl ?_
                        refine wa_aload_n (i := 1) rfl rfl ?_
                        refine wa_aload_n (i := 1) rfl rfl ?_
                        refine wa_iload rfl ?_
                        refine wa_iload rfl ?_
                        refine wa_Vi (d9 := d - 1) [.int _, .int _] [.ref 7, .ref 60, .int l3] (sp_X2_atomOf G (d := d - 1) (by omega) s96 _ _) (rfl) rfl rfl (zr (by omega)) mk_X2_atomOf ly_7 ml_9_75 (Nat.le_of_ble_eq_true rfl) (fun x113 s112 hs112 => ?_)
                        obtain ⟨zs112, -⟩ := pI hs112
                        subst zs112
                        refine wa_Vi (d9 := d - 1) [.ref 7, .int _] [.int l3] (sp_X9_takeAtom G (d := d - 1) (by omega) s96 _) (rfl) rfl rfl (zr (by omega)) mk_X9_takeAtom ly_60 ml_9_78 (Nat.le_of_ble_eq_true rfl) (fun x115 s114 hs114 => ?_)
                        obtain ⟨bx115, ex115, fs114, -⟩ := pB hs114
                        subst ex115
                        have Fs114 := Sm.tr Fs96 (Sm.wd fs114 (lo' := 60) (hi' := 63) (by decide) (by decide))
                        refine wa_iand ?_
                        refine wa_top (fun v116 hv116 => ?_)
                        have tv116 := i_andT hv116
                        clear hv116
                        refine wa_istore_nD (lv' := [(3, .int v116), (0, .ref 60), (1, .ref 7), (4, .int l4), (5, .int x95), (6, .int l6)]) (i := 3) rfl (by decide) rfl ?_
                        refine wa_iinc (v := (1)) (lv' := fun y117 => [(6, .int y117), (3, .int v116), (0, .ref 60), (1, .ref 7), (4, .int l4), (5, .int x95)]) (by decide) rfl (by decide) (fun _ => rfl) (fun y117 hy117 => ?_)
                        have ty117 := i_addT hy117.symm
                        clear hy117
                        refine wa_goto o_X9_load_109 (by decide) ?_
                        refine wa_pick [2, 3, 1, 4, 5, 0] rfl ?_
                        exact ih97 _ (by ((try simp only [vp_in_iff, Int32.lt_iff_toInt_lt, Int32.le_iff_toInt_le, ← Int32.toInt_inj, Int32.reduceToInt, n_1, n_2, n_8, Int32.toNatClampNeg, Int64.lt_iff_toInt_lt, Int64.le_iff_toInt_le, ← Int64.toInt_inj, Int64.reduceToInt, Int32.toInt_toInt64, lg_cmp_ge, lg_cmp_le, lg_cmp_gt, lg_cmp_lt, lg_cmp_eq, Bool.false_eq_true, Bool.true_eq_false, reduceCtorEq, false_iff, true_iff, iff_true, iff_false, and_true, true_and, and_false, false_and, reduceIte, ite_true, ite_false, eq_self] at *)) <;> omega) _ _ _ ⟨Fs114, ((Sm.gi fs114 10 (Or.inl (by decide))).trans (khi98_0)), ((Sm.gi fs114 11 (Or.inl (by decide))).trans (khi98_1)), ((Sm.gi fs114 13 (Or.inl (by decide))).trans (khi98_2)), (by ((try simp only [vp_in_iff, Int32.lt_iff_toInt_lt, Int32.le_iff_toInt_le, ← Int32.toInt_inj, Int32.reduceToInt, n_1, n_2, n_8, Int32.toNatClampNeg, Int64.lt_iff_toInt_lt, Int64.le_iff_toInt_le, ← Int64.toInt_inj, Int64.reduceToInt, Int32.toInt_toInt64, lg_cmp_ge, lg_cmp_le, lg_cmp_gt, lg_cmp_lt, lg_cmp_eq, Bool.false_eq_true, Bool.true_eq_false, reduceCtorEq, false_iff, true_iff, iff_true, iff_false, and_true, true_and, and_false, false_and, reduceIte, ite_true, ite_false, eq_self] at *)) <;> omega), trivial⟩ rfl
                  exact hi98 _ _ _ _ ⟨Fs65, (khi67_0), (khi67_1), (khi67_2), (by ((try simp only [vp_in_iff, Int32.lt_iff_toInt_lt, Int32.le_iff_toInt_le, ← Int32.toInt_inj, Int32.reduceToInt, n_1, n_2, n_8, Int32.toNatClampNeg, Int64.lt_iff_toInt_lt, Int64.le_iff_toInt_le, ← Int64.toInt_inj, Int64.reduceToInt, Int32.toInt_toInt64, lg_cmp_ge, lg_cmp_le, lg_cmp_gt, lg_cmp_lt, lg_cmp_eq, Bool.false_eq_true, Bool.true_eq_false, reduceCtorEq, false_iff, true_iff, iff_true, iff_false, and_true, true_and, and_false, false_and, reduceIte, ite_true, ite_false, eq_self] at *)) <;> omega), trivial⟩ rfl
          exact hi67 _ _ _ _ ⟨Fs64, ((nx_gi_sl hs64).trans (khi7_0)), ((nx_gi_sl hs64).trans (khi7_1)), ((nx_gi_sl hs64).trans (khi7_2)), (by ((try simp only [vp_in_iff, Int32.lt_iff_toInt_lt, Int32.le_iff_toInt_le, ← Int32.toInt_inj, Int32.reduceToInt, n_1, n_2, n_8, Int32.toNatClampNeg, Int64.lt_iff_toInt_lt, Int64.le_iff_toInt_le, ← Int64.toInt_inj, Int64.reduceToInt, Int32.toInt_toInt64, lg_cmp_ge, lg_cmp_le, lg_cmp_gt, lg_cmp_lt, lg_cmp_eq, Bool.false_eq_true, Bool.true_eq_false, reduceCtorEq, false_iff, true_iff, iff_true, iff_false, and_true, true_and, and_false, false_and, reduceIte, ite_true, ite_false, eq_self] at *)) <;> omega), trivial⟩ rfl
      · have mh8 := nle_mx h8
        refine wa_iload_n (i := 3) rfl rfl ?_
        refine wa_aload_n (i := 2) rfl rfl ?_
        refine wa_alen ly_29 (by decide) ?_
        refine wa_rw (show Int32.ofNat 5 = 5 from rfl) ?_
        refine wa_icmp_ge o_X9_load_49 (by decide) (fun h118 => ?_) (fun h118 => ?_)
        · refine wa_aload_n (i := 0) rfl rfl ?_
          refine wa_aload_n (i := 2) rfl rfl ?_
          refine wa_alen ly_29 (by decide) ?_
          refine wa_rw (show Int32.ofNat 5 = 5 from rfl) ?_
          refine wa_iconst (v := 4) (by decide) ?_
          refine wa_icmp_le o_X9_load_62 (by decide) (fun h119 => ?_) (fun h119 => ?_)
          · refine wa_lconst (v := 0) (by decide) ?_
            refine wa_putl ck_9 fl_9_63 ly_60 (fun s120 hs120 => ?_)
            have Fs120 : Sm 60 63 σ s120 := by rw [hs120]; exact Sm.sl Fs5 _ _ (by decide) (by decide)
            refine wa_iconst (v := 1) (by decide) ?_
            refine wa_istore_nD (lv' := [(3, .int 1), (0, .ref 60), (1, .ref 7), (2, .ref 29)]) (i := 3) rfl (by decide) rfl ?_
            refine wa_iconst (v := 0) (by decide) ?_
            refine wa_istoreD (lv' := [(4, .int 0), (3, .int 1), (0, .ref 60), (1, .ref 7), (2, .ref 29)]) (by decide) rfl ?_
            refine wa_pick [2, 3, 1, 0] rfl ?_
            have hi123 : ∀ (n9_71 : Nat) (l3 : Int32) (l4 : Int32) (s121 : St), ((Sm 60 63 σ s121) ∧ (gi s121 7 10 = gi σ 7 10) ∧ (gi s121 7 11 = gi σ 7 11) ∧ (gi s121 7 13 = gi σ 7 13) ∧ (0 ≤ l4.toInt) ∧ (True)) → (2147483647 - l4.toInt).toNat = n9_71 → WA G M_X9_load (ZM G M_X9_load d (fun r σ' => ∃ x : Bool, r = some (.int (bI x)) ∧ Sm 60 63 σ σ' ∧ True)) B_X9_load_71 [(0, .ref 60), (1, .ref 7), (3, .int l3), (4, .int l4)] [] s121 := by
              intro n9_71
              induction n9_71 using Nat.strongRecOn with
              | _ n9_71 ih122 =>
                intro l3 l4 s121 i9 m9_71
                obtain ⟨Fs121, khi123_0, khi123_1, khi123_2, jhi123_0, -⟩ := i9
                have ul3 := Int32.toInt_lt l3
                have wl3 := Int32.le_toInt l3
                have ul4 := Int32.toInt_lt l4
                have wl4 := Int32.le_toInt l4
                refine wa_iload rfl ?_
                refine wa_aload_n (i := 1) rfl rfl ?_
                refine wa_geti ck_2 fl_9_66 ly_7 ?_
                refine wa_rw (khi123_1) ?_
                refine wa_icmp_ge o_X9_load_178 (by decide) (fun h124 => ?_) (fun h124 => ?_)
                · refine wa_iload_n (i := 3) rfl rfl ?_
                  refine wa_zreturn _ (by sorry) rfl rfl ?_
                  exact ⟨_, rfl, Fs121, trivial⟩
                · have mh124 := nle_mx h124
                  refine wa_aload_n (i := 1) rfl rfl ?_
                  refine wa_geti ck_2 fl_9_69 ly_7 ?_
                  refine wa_rw (khi123_2) ?_
                  refine wa_iload rfl ?_
                  refine wa_iushr ?_
                  refine wa_top (fun v125 hv125 => ?_)
                  clear hv125
                  refine wa_iconst (v := 1) (by decide) ?_
                  refine wa_iand ?_
                  refine wa_top (fun v126 hv126 => ?_)
                  have tv126 := i_andT hv126
                  clear hv126
                  refine wa_iconst (v := 1) (by decide) ?_
                  refine wa_icmp_ne o_X9_load_103 (by decide) (fun h127 => ?_) (fun h127 => ?_)
                  · refine wa_iconst (v := 0) (by decide) ?_
                    refine wa_istoreD (lv' := [(5, .int 0), (0, .ref 60), (1, .ref 7), (3, .int l3), (4, .int l4)]) (by decide) rfl ?_
                    refine wa_iconst (v := 0) (by decide) ?_
                    refine wa_istoreD (lv' := [(6, .int 0), (5, .int 0), (0, .ref 60), (1, .ref 7), (3, .int l3), (4, .int l4)]) (by decide) rfl ?_
                    refine wa_pick [2, 3, 4, 5, 1, 0] rfl ?_
                    have hi130 : ∀ (n9_109 : Nat) (l3 : Int32) (l6 : Int32) (s128 : St), ((Sm 60 63 σ s128) ∧ (gi s128 7 10 = gi σ 7 10) ∧ (gi s128 7 11 = gi σ 7 11) ∧ (gi s128 7 13 = gi σ 7 13) ∧ (0 ≤ l6.toInt) ∧ (True)) → (2147483647 - l6.toInt).toNat = n9_109 → WA G M_X9_load (ZM G M_X9_load d (fun r σ' => ∃ x : Bool, r = some (.int (bI x)) ∧ Sm 60 63 σ σ' ∧ True)) B_X9_load_109 [(0, .ref 60), (1, .ref 7), (3, .int l3), (4, .int l4), (5, .int 0), (6, .int l6)] [] s128 := by
                      intro n9_109
                      induction n9_109 using Nat.strongRecOn with
                      | _ n9_109 ih129 =>
                        intro l3 l6 s128 i9 m9_109
                        obtain ⟨Fs128, khi130_0, khi130_1, khi130_2, jhi130_0, -⟩ := i9
                        have ul3 := Int32.toInt_lt l3
                        have wl3 := Int32.le_toInt l3
                        have ul6 := Int32.toInt_lt l6
                        have wl6 := Int32.le_toInt l6
                        refine wa_iload rfl ?_
                        refine wa_iload rfl ?_
                        refine wa_icmp_ge o_X9_load_138 (by decide) (fun h131 => ?_) (fun h131 => ?_)
                        · refine wa_aload_n (i := 1) rfl rfl ?_
                          refine wa_geti ck_2 fl_9_69 ly_7 ?_
                          refine wa_rw (khi130_2) ?_
                          refine wa_iload rfl ?_
                          refine wa_iushr ?_
                          refine wa_top (fun v132 hv132 => ?_)
                          clear hv132
                          refine wa_iconst (v := 1) (by decide) ?_
                          refine wa_iand ?_
                          refine wa_top (fun v133 hv133 => ?_)
                          have tv133 := i_andT hv133
                          clear hv133
                          refine wa_iconst (v := 1) (by decide) ?_
                          refine wa_icmp_ne o_X9_load_172 (by decide) (fun h134 => ?_) (fun h134 => ?_)
                          · refine wa_iinc (v := (1)) (lv' := fun y135 => [(4, .int y135), (0, .ref 60), (1, .ref 7), (3, .int l3), (5, .int 0), (6, .int l6)]) (by decide) rfl (by decide) (fun _ => rfl) (fun y135 hy135 => ?_)
                            have ty135 := i_addT hy135.symm
                            clear hy135
                            refine wa_goto o_X9_load_71 (by decide) ?_
                            refine wa_pick [1, 2, 3, 0] rfl ?_
                            exact ih122 _ (by ((try simp only [vp_in_iff, Int32.lt_iff_toInt_lt, Int32.le_iff_toInt_le, ← Int32.toInt_inj, Int32.reduceToInt, n_1, n_2, n_8, Int32.toNatClampNeg, Int64.lt_iff_toInt_lt, Int64.le_iff_toInt_le, ← Int64.toInt_inj, Int64.reduceToInt, Int32.toInt_toInt64, lg_cmp_ge, lg_cmp_le, lg_cmp_gt, lg_cmp_lt, lg_cmp_eq, Bool.false_eq_true, Bool.true_eq_false, reduceCtorEq, false_iff, true_iff, iff_true, iff_false, and_true, true_and, and_false, false_and, reduceIte, ite_true, ite_false, eq_self] at *)) <;> omega) _ _ _ ⟨Fs128, (khi130_0), (khi130_1), (khi130_2), (by ((try simp only [vp_in_iff, Int32.lt_iff_toInt_lt, Int32.le_iff_toInt_le, ← Int32.toInt_inj, Int32.reduceToInt, n_1, n_2, n_8, Int32.toNatClampNeg, Int64.lt_iff_toInt_lt, Int64.le_iff_toInt_le, ← Int64.toInt_inj, Int64.reduceToInt, Int32.toInt_toInt64, lg_cmp_ge, lg_cmp_le, lg_cmp_gt, lg_cmp_lt, lg_cmp_eq, Bool.false_eq_true, Bool.true_eq_false, reduceCtorEq, false_iff, true_iff, iff_true, iff_false, and_true, true_and, and_false, false_and, reduceIte, ite_true, ite_false, eq_self] at *)) <;> omega), trivial⟩ rfl
                          · refine wa_aload_n (i := 1) rfl rfl ?_
                            refine wa_iload rfl ?_
                            refine wa_bipush (v := 6) (by decide) ?_
                            refine wa_Vi (d9 := d - 1) [.int _, .int _] [] (sp_X2_fact G (d := d - 1) (by omega) s128 _ _) (rfl) rfl rfl (zr (by omega)) mk_X2_fact ly_7 ml_9_72 (Nat.le_of_ble_eq_true rfl) (fun x137 s136 hs136 => ?_)
                            obtain ⟨zs136, -⟩ := pI hs136
                            subst zs136
                            refine wa_iconst (v := 1) (by decide) ?_
                            refine wa_icmp_ne o_X9_load_172 (by decide) (fun h138 => ?_) (fun h138 => ?_)
                            · refine wa_iinc (v := (1)) (lv' := fun y139 => [(4, .int y139), (0, .ref 60), (1, .ref 7), (3, .int l3), (5, .int 0), (6, .int l6)]) (by decide) rfl (by decide) (fun _ => rfl) (fun y139 hy139 => ?_)
                              have ty139 := i_addT hy139.symm
                              clear hy139
                              refine wa_goto o_X9_load_71 (by decide) ?_
                              refine wa_pick [1, 2, 3, 0] rfl ?_
                              exact ih122 _ (by ((try simp only [vp_in_iff, Int32.lt_iff_toInt_lt, Int32.le_iff_toInt_le, ← Int32.toInt_inj, Int32.reduceToInt, n_1, n_2, n_8, Int32.toNatClampNeg, Int64.lt_iff_toInt_lt, Int64.le_iff_toInt_le, ← Int64.toInt_inj, Int64.reduceToInt, Int32.toInt_toInt64, lg_cmp_ge, lg_cmp_le, lg_cmp_gt, lg_cmp_lt, lg_cmp_eq, Bool.false_eq_true, Bool.true_eq_false, reduceCtorEq, false_iff, true_iff, iff_true, iff_false, and_true, true_and, and_false, false_and, reduceIte, ite_true, ite_false, eq_self] at *)) <;> omega) _ _ _ ⟨Fs128, (khi130_0), (khi130_1), (khi130_2), (by ((try simp only [vp_in_iff, Int32.lt_iff_toInt_lt, Int32.le_iff_toInt_le, ← Int32.toInt_inj, Int32.reduceToInt, n_1, n_2, n_8, Int32.toNatClampNeg, Int64.lt_iff_toInt_lt, Int64.le_iff_toInt_le, ← Int64.toInt_inj, Int64.reduceToInt, Int32.toInt_toInt64, lg_cmp_ge, lg_cmp_le, lg_cmp_gt, lg_cmp_lt, lg_cmp_eq, Bool.false_eq_true, Bool.true_eq_false, reduceCtorEq, false_iff, true_iff, iff_true, iff_false, and_true, true_and, and_false, false_and, reduceIte, ite_true, ite_false, eq_self] at *)) <;> omega), trivial⟩ rfl
                            · refine wa_iload_n (i := 3) rfl rfl ?_
                              refine wa_aload_n (i := 0) rfl rfl ?_
                              refine wa_aload_n (i := 1) rfl rfl ?_
                              refine wa_iconst (v := (-1)) (by decide) ?_
                              refine wa_Vi (d9 := d - 1) [.ref 7, .int _] [.int l3] (sp_X9_takeAtom G (d := d - 1) (by omega) s128 _) (rfl) rfl rfl (zr (by omega)) mk_X9_takeAtom ly_60 ml_9_78 (Nat.le_of_ble_eq_true rfl) (fun x141 s140 hs140 => ?_)
                              obtain ⟨bx141, ex141, fs140, -⟩ := pB hs140
                              subst ex141
                              have Fs140 := Sm.tr Fs128 (Sm.wd fs140 (lo' := 60) (hi' := 63) (by decide) (by decide))
                              refine wa_iand ?_
                              refine wa_top (fun v142 hv142 => ?_)
                              have tv142 := i_andT hv142
                              clear hv142
                              refine wa_istore_nD (lv' := [(3, .int v142), (0, .ref 60), (1, .ref 7), (4, .int l4), (5, .int 0), (6, .int l6)]) (i := 3) rfl (by decide) rfl ?_
                              refine wa_iinc (v := (1)) (lv' := fun y143 => [(4, .int y143), (3, .int v142), (0, .ref 60), (1, .ref 7), (5, .int 0), (6, .int l6)]) (by decide) rfl (by decide) (fun _ => rfl) (fun y143 hy143 => ?_)
                              have ty143 := i_addT hy143.symm
                              clear hy143
                              refine wa_goto o_X9_load_71 (by decide) ?_
                              refine wa_pick [2, 3, 1, 0] rfl ?_
                              exact ih122 _ (by ((try simp only [vp_in_iff, Int32.lt_iff_toInt_lt, Int32.le_iff_toInt_le, ← Int32.toInt_inj, Int32.reduceToInt, n_1, n_2, n_8, Int32.toNatClampNeg, Int64.lt_iff_toInt_lt, Int64.le_iff_toInt_le, ← Int64.toInt_inj, Int64.reduceToInt, Int32.toInt_toInt64, lg_cmp_ge, lg_cmp_le, lg_cmp_gt, lg_cmp_lt, lg_cmp_eq, Bool.false_eq_true, Bool.true_eq_false, reduceCtorEq, false_iff, true_iff, iff_true, iff_false, and_true, true_and, and_false, false_and, reduceIte, ite_true, ite_false, eq_self] at *)) <;> omega) _ _ _ ⟨Fs140, ((Sm.gi fs140 10 (Or.inl (by decide))).trans (khi130_0)), ((Sm.gi fs140 11 (Or.inl (by decide))).trans (khi130_1)), ((Sm.gi fs140 13 (Or.inl (by decide))).trans (khi130_2)), (by ((try simp only [vp_in_iff, Int32.lt_iff_toInt_lt, Int32.le_iff_toInt_le, ← Int32.toInt_inj, Int32.reduceToInt, n_1, n_2, n_8, Int32.toNatClampNeg, Int64.lt_iff_toInt_lt, Int64.le_iff_toInt_le, ← Int64.toInt_inj, Int64.reduceToInt, Int32.toInt_toInt64, lg_cmp_ge, lg_cmp_le, lg_cmp_gt, lg_cmp_lt, lg_cmp_eq, Bool.false_eq_true, Bool.true_eq_false, reduceCtorEq, false_iff, true_iff, iff_true, iff_false, and_true, true_and, and_false, false_and, reduceIte, ite_true, ite_false, eq_self] at *)) <;> omega), trivial⟩ rfl
                        · have mh131 := nle_mx h131
                          refine wa_iload_n (i := 3) rfl rfl ?_
                          refine wa_aload_n (i := 0) rfl rfl ?_
                          refine wa_aload_n (i := 1) rfl rfl ?_
                          refine wa_aload_n (i := 1) rfl rfl ?_
                          refine wa_iload rfl ?_
                          refine wa_iload rfl ?_
                          refine wa_Vi (d9 := d - 1) [.int _, .int _] [.ref 7, .ref 60, .int l3] (sp_X2_atomOf G (d := d - 1) (by omega) s128 _ _) (rfl) rfl rfl (zr (by omega)) mk_X2_atomOf ly_7 ml_9_75 (Nat.le_of_ble_eq_true rfl) (fun x145 s144 hs144 => ?_)
                          obtain ⟨zs144, -⟩ := pI hs144
                          subst zs144
                          refine wa_Vi (d9 := d - 1) [.ref 7, .int _] [.int l3] (sp_X9_takeAtom G (d := d - 1) (by omega) s128 _) (rfl) rfl rfl (zr (by omega)) mk_X9_takeAtom ly_60 ml_9_78 (Nat.le_of_ble_eq_true rfl) (fun x147 s146 hs146 => ?_)
                          obtain ⟨bx147, ex147, fs146, -⟩ := pB hs146
                          subst ex147
                          have Fs146 := Sm.tr Fs128 (Sm.wd fs146 (lo' := 60) (hi' := 63) (by decide) (by decide))
                          refine wa_iand ?_
                          refine wa_top (fun v148 hv148 => ?_)
                          have tv148 := i_andT hv148
                          clear hv148
                          refine wa_istore_nD (lv' := [(3, .int v148), (0, .ref 60), (1, .ref 7), (4, .int l4), (5, .int 0), (6, .int l6)]) (i := 3) rfl (by decide) rfl ?_
                          refine wa_iinc (v := (1)) (lv' := fun y149 => [(6, .int y149), (3, .int v148), (0, .ref 60), (1, .ref 7), (4, .int l4), (5, .int 0)]) (by decide) rfl (by decide) (fun _ => rfl) (fun y149 hy149 => ?_)
                          have ty149 := i_addT hy149.symm
                          clear hy149
                          refine wa_goto o_X9_load_109 (by decide) ?_
                          refine wa_pick [2, 3, 1, 4, 5, 0] rfl ?_
                          exact ih129 _ (by ((try simp only [vp_in_iff, Int32.lt_iff_toInt_lt, Int32.le_iff_toInt_le, ← Int32.toInt_inj, Int32.reduceToInt, n_1, n_2, n_8, Int32.toNatClampNeg, Int64.lt_iff_toInt_lt, Int64.le_iff_toInt_le, ← Int64.toInt_inj, Int64.reduceToInt, Int32.toInt_toInt64, lg_cmp_ge, lg_cmp_le, lg_cmp_gt, lg_cmp_lt, lg_cmp_eq, Bool.false_eq_true, Bool.true_eq_false, reduceCtorEq, false_iff, true_iff, iff_true, iff_false, and_true, true_and, and_false, false_and, reduceIte, ite_true, ite_false, eq_self] at *)) <;> omega) _ _ _ ⟨Fs146, ((Sm.gi fs146 10 (Or.inl (by decide))).trans (khi130_0)), ((Sm.gi fs146 11 (Or.inl (by decide))).trans (khi130_1)), ((Sm.gi fs146 13 (Or.inl (by decide))).trans (khi130_2)), (by ((try simp only [vp_in_iff, Int32.lt_iff_toInt_lt, Int32.le_iff_toInt_le, ← Int32.toInt_inj, Int32.reduceToInt, n_1, n_2, n_8, Int32.toNatClampNeg, Int64.lt_iff_toInt_lt, Int64.le_iff_toInt_le, ← Int64.toInt_inj, Int64.reduceToInt, Int32.toInt_toInt64, lg_cmp_ge, lg_cmp_le, lg_cmp_gt, lg_cmp_lt, lg_cmp_eq, Bool.false_eq_true, Bool.true_eq_false, reduceCtorEq, false_iff, true_iff, iff_true, iff_false, and_true, true_and, and_false, false_and, reduceIte, ite_true, ite_false, eq_self] at *)) <;> omega), trivial⟩ rfl
                    exact hi130 _ _ _ _ ⟨Fs121, (khi123_0), (khi123_1), (khi123_2), (by ((try simp only [vp_in_iff, Int32.lt_iff_toInt_lt, Int32.le_iff_toInt_le, ← Int32.toInt_inj, Int32.reduceToInt, n_1, n_2, n_8, Int32.toNatClampNeg, Int64.lt_iff_toInt_lt, Int64.le_iff_toInt_le, ← Int64.toInt_inj, Int64.reduceToInt, Int32.toInt_toInt64, lg_cmp_ge, lg_cmp_le, lg_cmp_gt, lg_cmp_lt, lg_cmp_eq, Bool.false_eq_true, Bool.true_eq_false, reduceCtorEq, false_iff, true_iff, iff_true, iff_false, and_true, true_and, and_false, false_and, reduceIte, ite_true, ite_false, eq_self] at *)) <;> omega), trivial⟩ rfl
                  · refine wa_aload_n (i := 1) rfl rfl ?_
                    refine wa_iload rfl ?_
                    refine wa_iconst (v := 4) (by decide) ?_
                    refine wa_Vi (d9 := d - 1) [.int _, .int _] [] (sp_X2_fact G (d := d - 1) (by omega) s121 _ _) (rfl) rfl rfl (zr (by omega)) mk_X2_fact ly_7 ml_9_72 (Nat.le_of_ble_eq_true rfl) (fun x151 s150 hs150 => ?_)
                    obtain ⟨zs150, -⟩ := pI hs150
                    subst zs150
                    refine wa_goto o_X9_load_104 (by decide) ?_
                    refine wa_istoreD (lv' := [(5, .int x151), (0, .ref 60), (1, .ref 7), (3, .int l3), (4, .int l4)]) (by decide) rfl ?_
                    refine wa_iconst (v := 0) (by decide) ?_
                    refine wa_istoreD (lv' := [(6, .int 0), (5, .int x151), (0, .ref 60), (1, .ref 7), (3, .int l3), (4, .int l4)]) (by decide) rfl ?_
                    refine wa_pick [2, 3, 4, 5, 1, 0] rfl ?_
                    have hi154 : ∀ (n9_109 : Nat) (l3 : Int32) (l6 : Int32) (s152 : St), ((Sm 60 63 σ s152) ∧ (gi s152 7 10 = gi σ 7 10) ∧ (gi s152 7 11 = gi σ 7 11) ∧ (gi s152 7 13 = gi σ 7 13) ∧ (0 ≤ l6.toInt) ∧ (True)) → (2147483647 - l6.toInt).toNat = n9_109 → WA G M_X9_load (ZM G M_X9_load d (fun r σ' => ∃ x : Bool, r = some (.int (bI x)) ∧ Sm 60 63 σ σ' ∧ True)) B_X9_load_109 [(0, .ref 60), (1, .ref 7), (3, .int l3), (4, .int l4), (5, .int x151), (6, .int l6)] [] s152 := by
                      intro n9_109
                      induction n9_109 using Nat.strongRecOn with
                      | _ n9_109 ih153 =>
                        intro l3 l6 s152 i9 m9_109
                        obtain ⟨Fs152, khi154_0, khi154_1, khi154_2, jhi154_0, -⟩ := i9
                        have ul3 := Int32.toInt_lt l3
                        have wl3 := Int32.le_toInt l3
                        have ul6 := Int32.toInt_lt l6
                        have wl6 := Int32.le_toInt l6
                        refine wa_iload rfl ?_
                        refine wa_iload rfl ?_
                        refine wa_icmp_ge o_X9_load_138 (by decide) (fun h155 => ?_) (fun h155 => ?_)
                        · refine wa_aload_n (i := 1) rfl rfl ?_
                          refine wa_geti ck_2 fl_9_69 ly_7 ?_
                          refine wa_rw (khi154_2) ?_
                          refine wa_iload rfl ?_
                          refine wa_iushr ?_
                          refine wa_top (fun v156 hv156 => ?_)
                          clear hv156
                          refine wa_iconst (v := 1) (by decide) ?_
                          refine wa_iand ?_
                          refine wa_top (fun v157 hv157 => ?_)
                          have tv157 := i_andT hv157
                          clear hv157
                          refine wa_iconst (v := 1) (by decide) ?_
                          refine wa_icmp_ne o_X9_load_172 (by decide) (fun h158 => ?_) (fun h158 => ?_)
                          · refine wa_iinc (v := (1)) (lv' := fun y159 => [(4, .int y159), (0, .ref 60), (1, .ref 7), (3, .int l3), (5, .int x151), (6, .int l6)]) (by decide) rfl (by decide) (fun _ => rfl) (fun y159 hy159 => ?_)
                            have ty159 := i_addT hy159.symm
                            clear hy159
                            refine wa_goto o_X9_load_71 (by decide) ?_
                            refine wa_pick [1, 2, 3, 0] rfl ?_
                            exact ih122 _ (by ((try simp only [vp_in_iff, Int32.lt_iff_toInt_lt, Int32.le_iff_toInt_le, ← Int32.toInt_inj, Int32.reduceToInt, n_1, n_2, n_8, Int32.toNatClampNeg, Int64.lt_iff_toInt_lt, Int64.le_iff_toInt_le, ← Int64.toInt_inj, Int64.reduceToInt, Int32.toInt_toInt64, lg_cmp_ge, lg_cmp_le, lg_cmp_gt, lg_cmp_lt, lg_cmp_eq, Bool.false_eq_true, Bool.true_eq_false, reduceCtorEq, false_iff, true_iff, iff_true, iff_false, and_true, true_and, and_false, false_and, reduceIte, ite_true, ite_false, eq_self] at *)) <;> omega) _ _ _ ⟨Fs152, (khi154_0), (khi154_1), (khi154_2), (by ((try simp only [vp_in_iff, Int32.lt_iff_toInt_lt, Int32.le_iff_toInt_le, ← Int32.toInt_inj, Int32.reduceToInt, n_1, n_2, n_8, Int32.toNatClampNeg, Int64.lt_iff_toInt_lt, Int64.le_iff_toInt_le, ← Int64.toInt_inj, Int64.reduceToInt, Int32.toInt_toInt64, lg_cmp_ge, lg_cmp_le, lg_cmp_gt, lg_cmp_lt, lg_cmp_eq, Bool.false_eq_true, Bool.true_eq_false, reduceCtorEq, false_iff, true_iff, iff_true, iff_false, and_true, true_and, and_false, false_and, reduceIte, ite_true, ite_false, eq_self] at *)) <;> omega), trivial⟩ rfl
                          · refine wa_aload_n (i := 1) rfl rfl ?_
                            refine wa_iload rfl ?_
                            refine wa_bipush (v := 6) (by decide) ?_
                            refine wa_Vi (d9 := d - 1) [.int _, .int _] [] (sp_X2_fact G (d := d - 1) (by omega) s152 _ _) (rfl) rfl rfl (zr (by omega)) mk_X2_fact ly_7 ml_9_72 (Nat.le_of_ble_eq_true rfl) (fun x161 s160 hs160 => ?_)
                            obtain ⟨zs160, -⟩ := pI hs160
                            subst zs160
                            refine wa_iconst (v := 1) (by decide) ?_
                            refine wa_icmp_ne o_X9_load_172 (by decide) (fun h162 => ?_) (fun h162 => ?_)
                            · refine wa_iinc (v := (1)) (lv' := fun y163 => [(4, .int y163), (0, .ref 60), (1, .ref 7), (3, .int l3), (5, .int x151), (6, .int l6)]) (by decide) rfl (by decide) (fun _ => rfl) (fun y163 hy163 => ?_)
                              have ty163 := i_addT hy163.symm
                              clear hy163
                              refine wa_goto o_X9_load_71 (by decide) ?_
                              refine wa_pick [1, 2, 3, 0] rfl ?_
                              exact ih122 _ (by ((try simp only [vp_in_iff, Int32.lt_iff_toInt_lt, Int32.le_iff_toInt_le, ← Int32.toInt_inj, Int32.reduceToInt, n_1, n_2, n_8, Int32.toNatClampNeg, Int64.lt_iff_toInt_lt, Int64.le_iff_toInt_le, ← Int64.toInt_inj, Int64.reduceToInt, Int32.toInt_toInt64, lg_cmp_ge, lg_cmp_le, lg_cmp_gt, lg_cmp_lt, lg_cmp_eq, Bool.false_eq_true, Bool.true_eq_false, reduceCtorEq, false_iff, true_iff, iff_true, iff_false, and_true, true_and, and_false, false_and, reduceIte, ite_true, ite_false, eq_self] at *)) <;> omega) _ _ _ ⟨Fs152, (khi154_0), (khi154_1), (khi154_2), (by ((try simp only [vp_in_iff, Int32.lt_iff_toInt_lt, Int32.le_iff_toInt_le, ← Int32.toInt_inj, Int32.reduceToInt, n_1, n_2, n_8, Int32.toNatClampNeg, Int64.lt_iff_toInt_lt, Int64.le_iff_toInt_le, ← Int64.toInt_inj, Int64.reduceToInt, Int32.toInt_toInt64, lg_cmp_ge, lg_cmp_le, lg_cmp_gt, lg_cmp_lt, lg_cmp_eq, Bool.false_eq_true, Bool.true_eq_false, reduceCtorEq, false_iff, true_iff, iff_true, iff_false, and_true, true_and, and_false, false_and, reduceIte, ite_true, ite_false, eq_self] at *)) <;> omega), trivial⟩ rfl
                            · refine wa_iload_n (i := 3) rfl rfl ?_
                              refine wa_aload_n (i := 0) rfl rfl ?_
                              refine wa_aload_n (i := 1) rfl rfl ?_
                              refine wa_iconst (v := (-1)) (by decide) ?_
                              refine wa_Vi (d9 := d - 1) [.ref 7, .int _] [.int l3] (sp_X9_takeAtom G (d := d - 1) (by omega) s152 _) (rfl) rfl rfl (zr (by omega)) mk_X9_takeAtom ly_60 ml_9_78 (Nat.le_of_ble_eq_true rfl) (fun x165 s164 hs164 => ?_)
                              obtain ⟨bx165, ex165, fs164, -⟩ := pB hs164
                              subst ex165
                              have Fs164 := Sm.tr Fs152 (Sm.wd fs164 (lo' := 60) (hi' := 63) (by decide) (by decide))
                              refine wa_iand ?_
                              refine wa_top (fun v166 hv166 => ?_)
                              have tv166 := i_andT hv166
                              clear hv166
                              refine wa_istore_nD (lv' := [(3, .int v166), (0, .ref 60), (1, .ref 7), (4, .int l4), (5, .int x151), (6, .int l6)]) (i := 3) rfl (by decide) rfl ?_
                              refine wa_iinc (v := (1)) (lv' := fun y167 => [(4, .int y167), (3, .int v166), (0, .ref 60), (1, .ref 7), (5, .int x151), (6, .int l6)]) (by decide) rfl (by decide) (fun _ => rfl) (fun y167 hy167 => ?_)
                              have ty167 := i_addT hy167.symm
                              clear hy167
                              refine wa_goto o_X9_load_71 (by decide) ?_
                              refine wa_pick [2, 3, 1, 0] rfl ?_
                              exact ih122 _ (by ((try simp only [vp_in_iff, Int32.lt_iff_toInt_lt, Int32.le_iff_toInt_le, ← Int32.toInt_inj, Int32.reduceToInt, n_1, n_2, n_8, Int32.toNatClampNeg, Int64.lt_iff_toInt_lt, Int64.le_iff_toInt_le, ← Int64.toInt_inj, Int64.reduceToInt, Int32.toInt_toInt64, lg_cmp_ge, lg_cmp_le, lg_cmp_gt, lg_cmp_lt, lg_cmp_eq, Bool.false_eq_true, Bool.true_eq_false, reduceCtorEq, false_iff, true_iff, iff_true, iff_false, and_true, true_and, and_false, false_and, reduceIte, ite_true, ite_false, eq_self] at *)) <;> omega) _ _ _ ⟨Fs164, ((Sm.gi fs164 10 (Or.inl (by decide))).trans (khi154_0)), ((Sm.gi fs164 11 (Or.inl (by decide))).trans (khi154_1)), ((Sm.gi fs164 13 (Or.inl (by decide))).trans (khi154_2)), (by ((try simp only [vp_in_iff, Int32.lt_iff_toInt_lt, Int32.le_iff_toInt_le, ← Int32.toInt_inj, Int32.reduceToInt, n_1, n_2, n_8, Int32.toNatClampNeg, Int64.lt_iff_toInt_lt, Int64.le_iff_toInt_le, ← Int64.toInt_inj, Int64.reduceToInt, Int32.toInt_toInt64, lg_cmp_ge, lg_cmp_le, lg_cmp_gt, lg_cmp_lt, lg_cmp_eq, Bool.false_eq_true, Bool.true_eq_false, reduceCtorEq, false_iff, true_iff, iff_true, iff_false, and_true, true_and, and_false, false_and, reduceIte, ite_true, ite_false, eq_self] at *)) <;> omega), trivial⟩ rfl
                        · have mh155 := nle_mx h155
                          refine wa_iload_n (i := 3) rfl rfl ?_
                          refine wa_aload_n (i := 0) rfl rfl ?_
                          refine wa_aload_n (i := 1) rfl rfl ?_
                          refine wa_aload_n (i := 1) rfl rfl ?_
                          refine wa_iload rfl ?_
                          refine wa_iload rfl ?_
                          refine wa_Vi (d9 := d - 1) [.int _, .int _] [.ref 7, .ref 60, .int l3] (sp_X2_atomOf G (d := d - 1) (by omega) s152 _ _) (rfl) rfl rfl (zr (by omega)) mk_X2_atomOf ly_7 ml_9_75 (Nat.le_of_ble_eq_true rfl) (fun x169 s168 hs168 => ?_)
                          obtain ⟨zs168, -⟩ := pI hs168
                          subst zs168
                          refine wa_Vi (d9 := d - 1) [.ref 7, .int _] [.int l3] (sp_X9_takeAtom G (d := d - 1) (by omega) s152 _) (rfl) rfl rfl (zr (by omega)) mk_X9_takeAtom ly_60 ml_9_78 (Nat.le_of_ble_eq_true rfl) (fun x171 s170 hs170 => ?_)
                          obtain ⟨bx171, ex171, fs170, -⟩ := pB hs170
                          subst ex171
                          have Fs170 := Sm.tr Fs152 (Sm.wd fs170 (lo' := 60) (hi' := 63) (by decide) (by decide))
                          refine wa_iand ?_
                          refine wa_top (fun v172 hv172 => ?_)
                          have tv172 := i_andT hv172
                          clear hv172
                          refine wa_istore_nD (lv' := [(3, .int v172), (0, .ref 60), (1, .ref 7), (4, .int l4), (5, .int x151), (6, .int l6)]) (i := 3) rfl (by decide) rfl ?_
                          refine wa_iinc (v := (1)) (lv' := fun y173 => [(6, .int y173), (3, .int v172), (0, .ref 60), (1, .ref 7), (4, .int l4), (5, .int x151)]) (by decide) rfl (by decide) (fun _ => rfl) (fun y173 hy173 => ?_)
                          have ty173 := i_addT hy173.symm
                          clear hy173
                          refine wa_goto o_X9_load_109 (by decide) ?_
                          refine wa_pick [2, 3, 1, 4, 5, 0] rfl ?_
                          exact ih153 _ (by ((try simp only [vp_in_iff, Int32.lt_iff_toInt_lt, Int32.le_iff_toInt_le, ← Int32.toInt_inj, Int32.reduceToInt, n_1, n_2, n_8, Int32.toNatClampNeg, Int64.lt_iff_toInt_lt, Int64.le_iff_toInt_le, ← Int64.toInt_inj, Int64.reduceToInt, Int32.toInt_toInt64, lg_cmp_ge, lg_cmp_le, lg_cmp_gt, lg_cmp_lt, lg_cmp_eq, Bool.false_eq_true, Bool.true_eq_false, reduceCtorEq, false_iff, true_iff, iff_true, iff_false, and_true, true_and, and_false, false_and, reduceIte, ite_true, ite_false, eq_self] at *)) <;> omega) _ _ _ ⟨Fs170, ((Sm.gi fs170 10 (Or.inl (by decide))).trans (khi154_0)), ((Sm.gi fs170 11 (Or.inl (by decide))).trans (khi154_1)), ((Sm.gi fs170 13 (Or.inl (by decide))).trans (khi154_2)), (by ((try simp only [vp_in_iff, Int32.lt_iff_toInt_lt, Int32.le_iff_toInt_le, ← Int32.toInt_inj, Int32.reduceToInt, n_1, n_2, n_8, Int32.toNatClampNeg, Int64.lt_iff_toInt_lt, Int64.le_iff_toInt_le, ← Int64.toInt_inj, Int64.reduceToInt, Int32.toInt_toInt64, lg_cmp_ge, lg_cmp_le, lg_cmp_gt, lg_cmp_lt, lg_cmp_eq, Bool.false_eq_true, Bool.true_eq_false, reduceCtorEq, false_iff, true_iff, iff_true, iff_false, and_true, true_and, and_false, false_and, reduceIte, ite_true, ite_false, eq_self] at *)) <;> omega), trivial⟩ rfl
                    exact hi154 _ _ _ _ ⟨Fs121, (khi123_0), (khi123_1), (khi123_2), (by ((try simp only [vp_in_iff, Int32.lt_iff_toInt_lt, Int32.le_iff_toInt_le, ← Int32.toInt_inj, Int32.reduceToInt, n_1, n_2, n_8, Int32.toNatClampNeg, Int64.lt_iff_toInt_lt, Int64.le_iff_toInt_le, ← Int64.toInt_inj, Int64.reduceToInt, Int32.toInt_toInt64, lg_cmp_ge, lg_cmp_le, lg_cmp_gt, lg_cmp_lt, lg_cmp_eq, Bool.false_eq_true, Bool.true_eq_false, reduceCtorEq, false_iff, true_iff, iff_true, iff_false, and_true, true_and, and_false, false_and, reduceIte, ite_true, ite_false, eq_self] at *)) <;> omega), trivial⟩ rfl
            exact hi123 _ _ _ _ ⟨Fs120, ((nx_gi_sl hs120).trans (khi7_0)), ((nx_gi_sl hs120).trans (khi7_1)), ((nx_gi_sl hs120).trans (khi7_2)), (by ((try simp only [vp_in_iff, Int32.lt_iff_toInt_lt, Int32.le_iff_toInt_le, ← Int32.toInt_inj, Int32.reduceToInt, n_1, n_2, n_8, Int32.toNatClampNeg, Int64.lt_iff_toInt_lt, Int64.le_iff_toInt_le, ← Int64.toInt_inj, Int64.reduceToInt, Int32.toInt_toInt64, lg_cmp_ge, lg_cmp_le, lg_cmp_gt, lg_cmp_lt, lg_cmp_eq, Bool.false_eq_true, Bool.true_eq_false, reduceCtorEq, false_iff, true_iff, iff_true, iff_false, and_true, true_and, and_false, false_and, reduceIte, ite_true, ite_false, eq_self] at *)) <;> omega), trivial⟩ rfl
          · refine wa_aload_n (i := 2) rfl rfl ?_
            refine wa_iconst (v := 4) (by decide) ?_
            refine wa_lald ly_29 (by ((try simp only [vp_in_iff, Int32.lt_iff_toInt_lt, Int32.le_iff_toInt_le, ← Int32.toInt_inj, Int32.reduceToInt, n_1, n_2, n_8, Int32.toNatClampNeg, Int64.lt_iff_toInt_lt, Int64.le_iff_toInt_le, ← Int64.toInt_inj, Int64.reduceToInt, Int32.toInt_toInt64, lg_cmp_ge, lg_cmp_le, lg_cmp_gt, lg_cmp_lt, lg_cmp_eq, Bool.false_eq_true, Bool.true_eq_false, reduceCtorEq, false_iff, true_iff, iff_true, iff_false, and_true, true_and, and_false, false_and, reduceIte, ite_true, ite_false, eq_self] at *)) <;> omega) ?_
            refine wa_goto o_X9_load_63 (by decide) ?_
            refine wa_putl ck_9 fl_9_63 ly_60 (fun s174 hs174 => ?_)
            have Fs174 : Sm 60 63 σ s174 := by rw [hs174]; exact Sm.sl Fs5 _ _ (by decide) (by decide)
            refine wa_iconst (v := 1) (by decide) ?_
            refine wa_istore_nD (lv' := [(3, .int 1), (0, .ref 60), (1, .ref 7), (2, .ref 29)]) (i := 3) rfl (by decide) rfl ?_
            refine wa_iconst (v := 0) (by decide) ?_
            refine wa_istoreD (lv' := [(4, .int 0), (3, .int 1), (0, .ref 60), (1, .ref 7), (2, .ref 29)]) (by decide) rfl ?_
            refine wa_pick [2, 3, 1, 0] rfl ?_
            have hi177 : ∀ (n9_71 : Nat) (l3 : Int32) (l4 : Int32) (s175 : St), ((Sm 60 63 σ s175) ∧ (gi s175 7 10 = gi σ 7 10) ∧ (gi s175 7 11 = gi σ 7 11) ∧ (gi s175 7 13 = gi σ 7 13) ∧ (0 ≤ l4.toInt) ∧ (True)) → (2147483647 - l4.toInt).toNat = n9_71 → WA G M_X9_load (ZM G M_X9_load d (fun r σ' => ∃ x : Bool, r = some (.int (bI x)) ∧ Sm 60 63 σ σ' ∧ True)) B_X9_load_71 [(0, .ref 60), (1, .ref 7), (3, .int l3), (4, .int l4)] [] s175 := by
              intro n9_71
              induction n9_71 using Nat.strongRecOn with
              | _ n9_71 ih176 =>
                intro l3 l4 s175 i9 m9_71
                obtain ⟨Fs175, khi177_0, khi177_1, khi177_2, jhi177_0, -⟩ := i9
                have ul3 := Int32.toInt_lt l3
                have wl3 := Int32.le_toInt l3
                have ul4 := Int32.toInt_lt l4
                have wl4 := Int32.le_toInt l4
                refine wa_iload rfl ?_
                refine wa_aload_n (i := 1) rfl rfl ?_
                refine wa_geti ck_2 fl_9_66 ly_7 ?_
                refine wa_rw (khi177_1) ?_
                refine wa_icmp_ge o_X9_load_178 (by decide) (fun h178 => ?_) (fun h178 => ?_)
                · refine wa_iload_n (i := 3) rfl rfl ?_
                  refine wa_zreturn _ (by sorry) rfl rfl ?_
                  exact ⟨_, rfl, Fs175, trivial⟩
                · have mh178 := nle_mx h178
                  refine wa_aload_n (i := 1) rfl rfl ?_
                  refine wa_geti ck_2 fl_9_69 ly_7 ?_
                  refine wa_rw (khi177_2) ?_
                  refine wa_iload rfl ?_
                  refine wa_iushr ?_
                  refine wa_top (fun v179 hv179 => ?_)
                  clear hv179
                  refine wa_iconst (v := 1) (by decide) ?_
                  refine wa_iand ?_
                  refine wa_top (fun v180 hv180 => ?_)
                  have tv180 := i_andT hv180
                  clear hv180
                  refine wa_iconst (v := 1) (by decide) ?_
                  refine wa_icmp_ne o_X9_load_103 (by decide) (fun h181 => ?_) (fun h181 => ?_)
                  · refine wa_iconst (v := 0) (by decide) ?_
                    refine wa_istoreD (lv' := [(5, .int 0), (0, .ref 60), (1, .ref 7), (3, .int l3), (4, .int l4)]) (by decide) rfl ?_
                    refine wa_iconst (v := 0) (by decide) ?_
                    refine wa_istoreD (lv' := [(6, .int 0), (5, .int 0), (0, .ref 60), (1, .ref 7), (3, .int l3), (4, .int l4)]) (by decide) rfl ?_
                    refine wa_pick [2, 3, 4, 5, 1, 0] rfl ?_
                    have hi184 : ∀ (n9_109 : Nat) (l3 : Int32) (l6 : Int32) (s182 : St), ((Sm 60 63 σ s182) ∧ (gi s182 7 10 = gi σ 7 10) ∧ (gi s182 7 11 = gi σ 7 11) ∧ (gi s182 7 13 = gi σ 7 13) ∧ (0 ≤ l6.toInt) ∧ (True)) → (2147483647 - l6.toInt).toNat = n9_109 → WA G M_X9_load (ZM G M_X9_load d (fun r σ' => ∃ x : Bool, r = some (.int (bI x)) ∧ Sm 60 63 σ σ' ∧ True)) B_X9_load_109 [(0, .ref 60), (1, .ref 7), (3, .int l3), (4, .int l4), (5, .int 0), (6, .int l6)] [] s182 := by
                      intro n9_109
                      induction n9_109 using Nat.strongRecOn with
                      | _ n9_109 ih183 =>
                        intro l3 l6 s182 i9 m9_109
                        obtain ⟨Fs182, khi184_0, khi184_1, khi184_2, jhi184_0, -⟩ := i9
                        have ul3 := Int32.toInt_lt l3
                        have wl3 := Int32.le_toInt l3
                        have ul6 := Int32.toInt_lt l6
                        have wl6 := Int32.le_toInt l6
                        refine wa_iload rfl ?_
                        refine wa_iload rfl ?_
                        refine wa_icmp_ge o_X9_load_138 (by decide) (fun h185 => ?_) (fun h185 => ?_)
                        · refine wa_aload_n (i := 1) rfl rfl ?_
                          refine wa_geti ck_2 fl_9_69 ly_7 ?_
                          refine wa_rw (khi184_2) ?_
                          refine wa_iload rfl ?_
                          refine wa_iushr ?_
                          refine wa_top (fun v186 hv186 => ?_)
                          clear hv186
                          refine wa_iconst (v := 1) (by decide) ?_
                          refine wa_iand ?_
                          refine wa_top (fun v187 hv187 => ?_)
                          have tv187 := i_andT hv187
                          clear hv187
                          refine wa_iconst (v := 1) (by decide) ?_
                          refine wa_icmp_ne o_X9_load_172 (by decide) (fun h188 => ?_) (fun h188 => ?_)
                          · refine wa_iinc (v := (1)) (lv' := fun y189 => [(4, .int y189), (0, .ref 60), (1, .ref 7), (3, .int l3), (5, .int 0), (6, .int l6)]) (by decide) rfl (by decide) (fun _ => rfl) (fun y189 hy189 => ?_)
                            have ty189 := i_addT hy189.symm
                            clear hy189
                            refine wa_goto o_X9_load_71 (by decide) ?_
                            refine wa_pick [1, 2, 3, 0] rfl ?_
                            exact ih176 _ (by ((try simp only [vp_in_iff, Int32.lt_iff_toInt_lt, Int32.le_iff_toInt_le, ← Int32.toInt_inj, Int32.reduceToInt, n_1, n_2, n_8, Int32.toNatClampNeg, Int64.lt_iff_toInt_lt, Int64.le_iff_toInt_le, ← Int64.toInt_inj, Int64.reduceToInt, Int32.toInt_toInt64, lg_cmp_ge, lg_cmp_le, lg_cmp_gt, lg_cmp_lt, lg_cmp_eq, Bool.false_eq_true, Bool.true_eq_false, reduceCtorEq, false_iff, true_iff, iff_true, iff_false, and_true, true_and, and_false, false_and, reduceIte, ite_true, ite_false, eq_self] at *)) <;> omega) _ _ _ ⟨Fs182, (khi184_0), (khi184_1), (khi184_2), (by ((try simp only [vp_in_iff, Int32.lt_iff_toInt_lt, Int32.le_iff_toInt_le, ← Int32.toInt_inj, Int32.reduceToInt, n_1, n_2, n_8, Int32.toNatClampNeg, Int64.lt_iff_toInt_lt, Int64.le_iff_toInt_le, ← Int64.toInt_inj, Int64.reduceToInt, Int32.toInt_toInt64, lg_cmp_ge, lg_cmp_le, lg_cmp_gt, lg_cmp_lt, lg_cmp_eq, Bool.false_eq_true, Bool.true_eq_false, reduceCtorEq, false_iff, true_iff, iff_true, iff_false, and_true, true_and, and_false, false_and, reduceIte, ite_true, ite_false, eq_self] at *)) <;> omega), trivial⟩ rfl
                          · refine wa_aload_n (i := 1) rfl rfl ?_
                            refine wa_iload rfl ?_
                            refine wa_bipush (v := 6) (by decide) ?_
                            refine wa_Vi (d9 := d - 1) [.int _, .int _] [] (sp_X2_fact G (d := d - 1) (by omega) s182 _ _) (rfl) rfl rfl (zr (by omega)) mk_X2_fact ly_7 ml_9_72 (Nat.le_of_ble_eq_true rfl) (fun x191 s190 hs190 => ?_)
                            obtain ⟨zs190, -⟩ := pI hs190
                            subst zs190
                            refine wa_iconst (v := 1) (by decide) ?_
                            refine wa_icmp_ne o_X9_load_172 (by decide) (fun h192 => ?_) (fun h192 => ?_)
                            · refine wa_iinc (v := (1)) (lv' := fun y193 => [(4, .int y193), (0, .ref 60), (1, .ref 7), (3, .int l3), (5, .int 0), (6, .int l6)]) (by decide) rfl (by decide) (fun _ => rfl) (fun y193 hy193 => ?_)
                              have ty193 := i_addT hy193.symm
                              clear hy193
                              refine wa_goto o_X9_load_71 (by decide) ?_
                              refine wa_pick [1, 2, 3, 0] rfl ?_
                              exact ih176 _ (by ((try simp only [vp_in_iff, Int32.lt_iff_toInt_lt, Int32.le_iff_toInt_le, ← Int32.toInt_inj, Int32.reduceToInt, n_1, n_2, n_8, Int32.toNatClampNeg, Int64.lt_iff_toInt_lt, Int64.le_iff_toInt_le, ← Int64.toInt_inj, Int64.reduceToInt, Int32.toInt_toInt64, lg_cmp_ge, lg_cmp_le, lg_cmp_gt, lg_cmp_lt, lg_cmp_eq, Bool.false_eq_true, Bool.true_eq_false, reduceCtorEq, false_iff, true_iff, iff_true, iff_false, and_true, true_and, and_false, false_and, reduceIte, ite_true, ite_false, eq_self] at *)) <;> omega) _ _ _ ⟨Fs182, (khi184_0), (khi184_1), (khi184_2), (by ((try simp only [vp_in_iff, Int32.lt_iff_toInt_lt, Int32.le_iff_toInt_le, ← Int32.toInt_inj, Int32.reduceToInt, n_1, n_2, n_8, Int32.toNatClampNeg, Int64.lt_iff_toInt_lt, Int64.le_iff_toInt_le, ← Int64.toInt_inj, Int64.reduceToInt, Int32.toInt_toInt64, lg_cmp_ge, lg_cmp_le, lg_cmp_gt, lg_cmp_lt, lg_cmp_eq, Bool.false_eq_true, Bool.true_eq_false, reduceCtorEq, false_iff, true_iff, iff_true, iff_false, and_true, true_and, and_false, false_and, reduceIte, ite_true, ite_false, eq_self] at *)) <;> omega), trivial⟩ rfl
                            · refine wa_iload_n (i := 3) rfl rfl ?_
                              refine wa_aload_n (i := 0) rfl rfl ?_
                              refine wa_aload_n (i := 1) rfl rfl ?_
                              refine wa_iconst (v := (-1)) (by decide) ?_
                              refine wa_Vi (d9 := d - 1) [.ref 7, .int _] [.int l3] (sp_X9_takeAtom G (d := d - 1) (by omega) s182 _) (rfl) rfl rfl (zr (by omega)) mk_X9_takeAtom ly_60 ml_9_78 (Nat.le_of_ble_eq_true rfl) (fun x195 s194 hs194 => ?_)
                              obtain ⟨bx195, ex195, fs194, -⟩ := pB hs194
                              subst ex195
                              have Fs194 := Sm.tr Fs182 (Sm.wd fs194 (lo' := 60) (hi' := 63) (by decide) (by decide))
                              refine wa_iand ?_
                              refine wa_top (fun v196 hv196 => ?_)
                              have tv196 := i_andT hv196
                              clear hv196
                              refine wa_istore_nD (lv' := [(3, .int v196), (0, .ref 60), (1, .ref 7), (4, .int l4), (5, .int 0), (6, .int l6)]) (i := 3) rfl (by decide) rfl ?_
                              refine wa_iinc (v := (1)) (lv' := fun y197 => [(4, .int y197), (3, .int v196), (0, .ref 60), (1, .ref 7), (5, .int 0), (6, .int l6)]) (by decide) rfl (by decide) (fun _ => rfl) (fun y197 hy197 => ?_)
                              have ty197 := i_addT hy197.symm
                              clear hy197
                              refine wa_goto o_X9_load_71 (by decide) ?_
                              refine wa_pick [2, 3, 1, 0] rfl ?_
                              exact ih176 _ (by ((try simp only [vp_in_iff, Int32.lt_iff_toInt_lt, Int32.le_iff_toInt_le, ← Int32.toInt_inj, Int32.reduceToInt, n_1, n_2, n_8, Int32.toNatClampNeg, Int64.lt_iff_toInt_lt, Int64.le_iff_toInt_le, ← Int64.toInt_inj, Int64.reduceToInt, Int32.toInt_toInt64, lg_cmp_ge, lg_cmp_le, lg_cmp_gt, lg_cmp_lt, lg_cmp_eq, Bool.false_eq_true, Bool.true_eq_false, reduceCtorEq, false_iff, true_iff, iff_true, iff_false, and_true, true_and, and_false, false_and, reduceIte, ite_true, ite_false, eq_self] at *)) <;> omega) _ _ _ ⟨Fs194, ((Sm.gi fs194 10 (Or.inl (by decide))).trans (khi184_0)), ((Sm.gi fs194 11 (Or.inl (by decide))).trans (khi184_1)), ((Sm.gi fs194 13 (Or.inl (by decide))).trans (khi184_2)), (by ((try simp only [vp_in_iff, Int32.lt_iff_toInt_lt, Int32.le_iff_toInt_le, ← Int32.toInt_inj, Int32.reduceToInt, n_1, n_2, n_8, Int32.toNatClampNeg, Int64.lt_iff_toInt_lt, Int64.le_iff_toInt_le, ← Int64.toInt_inj, Int64.reduceToInt, Int32.toInt_toInt64, lg_cmp_ge, lg_cmp_le, lg_cmp_gt, lg_cmp_lt, lg_cmp_eq, Bool.false_eq_true, Bool.true_eq_false, reduceCtorEq, false_iff, true_iff, iff_true, iff_false, and_true, true_and, and_false, false_and, reduceIte, ite_true, ite_false, eq_self] at *)) <;> omega), trivial⟩ rfl
                        · have mh185 := nle_mx h185
                          refine wa_iload_n (i := 3) rfl rfl ?_
                          refine wa_aload_n (i := 0) rfl rfl ?_
                          refine wa_aload_n (i := 1) rfl rfl ?_
                          refine wa_aload_n (i := 1) rfl rfl ?_
                          refine wa_iload rfl ?_
                          refine wa_iload rfl ?_
                          refine wa_Vi (d9 := d - 1) [.int _, .int _] [.ref 7, .ref 60, .int l3] (sp_X2_atomOf G (d := d - 1) (by omega) s182 _ _) (rfl) rfl rfl (zr (by omega)) mk_X2_atomOf ly_7 ml_9_75 (Nat.le_of_ble_eq_true rfl) (fun x199 s198 hs198 => ?_)
                          obtain ⟨zs198, -⟩ := pI hs198
                          subst zs198
                          refine wa_Vi (d9 := d - 1) [.ref 7, .int _] [.int l3] (sp_X9_takeAtom G (d := d - 1) (by omega) s182 _) (rfl) rfl rfl (zr (by omega)) mk_X9_takeAtom ly_60 ml_9_78 (Nat.le_of_ble_eq_true rfl) (fun x201 s200 hs200 => ?_)
                          obtain ⟨bx201, ex201, fs200, -⟩ := pB hs200
                          subst ex201
                          have Fs200 := Sm.tr Fs182 (Sm.wd fs200 (lo' := 60) (hi' := 63) (by decide) (by decide))
                          refine wa_iand ?_
                          refine wa_top (fun v202 hv202 => ?_)
                          have tv202 := i_andT hv202
                          clear hv202
                          refine wa_istore_nD (lv' := [(3, .int v202), (0, .ref 60), (1, .ref 7), (4, .int l4), (5, .int 0), (6, .int l6)]) (i := 3) rfl (by decide) rfl ?_
                          refine wa_iinc (v := (1)) (lv' := fun y203 => [(6, .int y203), (3, .int v202), (0, .ref 60), (1, .ref 7), (4, .int l4), (5, .int 0)]) (by decide) rfl (by decide) (fun _ => rfl) (fun y203 hy203 => ?_)
                          have ty203 := i_addT hy203.symm
                          clear hy203
                          refine wa_goto o_X9_load_109 (by decide) ?_
                          refine wa_pick [2, 3, 1, 4, 5, 0] rfl ?_
                          exact ih183 _ (by ((try simp only [vp_in_iff, Int32.lt_iff_toInt_lt, Int32.le_iff_toInt_le, ← Int32.toInt_inj, Int32.reduceToInt, n_1, n_2, n_8, Int32.toNatClampNeg, Int64.lt_iff_toInt_lt, Int64.le_iff_toInt_le, ← Int64.toInt_inj, Int64.reduceToInt, Int32.toInt_toInt64, lg_cmp_ge, lg_cmp_le, lg_cmp_gt, lg_cmp_lt, lg_cmp_eq, Bool.false_eq_true, Bool.true_eq_false, reduceCtorEq, false_iff, true_iff, iff_true, iff_false, and_true, true_and, and_false, false_and, reduceIte, ite_true, ite_false, eq_self] at *)) <;> omega) _ _ _ ⟨Fs200, ((Sm.gi fs200 10 (Or.inl (by decide))).trans (khi184_0)), ((Sm.gi fs200 11 (Or.inl (by decide))).trans (khi184_1)), ((Sm.gi fs200 13 (Or.inl (by decide))).trans (khi184_2)), (by ((try simp only [vp_in_iff, Int32.lt_iff_toInt_lt, Int32.le_iff_toInt_le, ← Int32.toInt_inj, Int32.reduceToInt, n_1, n_2, n_8, Int32.toNatClampNeg, Int64.lt_iff_toInt_lt, Int64.le_iff_toInt_le, ← Int64.toInt_inj, Int64.reduceToInt, Int32.toInt_toInt64, lg_cmp_ge, lg_cmp_le, lg_cmp_gt, lg_cmp_lt, lg_cmp_eq, Bool.false_eq_true, Bool.true_eq_false, reduceCtorEq, false_iff, true_iff, iff_true, iff_false, and_true, true_and, and_false, false_and, reduceIte, ite_true, ite_false, eq_self] at *)) <;> omega), trivial⟩ rfl
                    exact hi184 _ _ _ _ ⟨Fs175, (khi177_0), (khi177_1), (khi177_2), (by ((try simp only [vp_in_iff, Int32.lt_iff_toInt_lt, Int32.le_iff_toInt_le, ← Int32.toInt_inj, Int32.reduceToInt, n_1, n_2, n_8, Int32.toNatClampNeg, Int64.lt_iff_toInt_lt, Int64.le_iff_toInt_le, ← Int64.toInt_inj, Int64.reduceToInt, Int32.toInt_toInt64, lg_cmp_ge, lg_cmp_le, lg_cmp_gt, lg_cmp_lt, lg_cmp_eq, Bool.false_eq_true, Bool.true_eq_false, reduceCtorEq, false_iff, true_iff, iff_true, iff_false, and_true, true_and, and_false, false_and, reduceIte, ite_true, ite_false, eq_self] at *)) <;> omega), trivial⟩ rfl
                  · refine wa_aload_n (i := 1) rfl rfl ?_
                    refine wa_iload rfl ?_
                    refine wa_iconst (v := 4) (by decide) ?_
                    refine wa_Vi (d9 := d - 1) [.int _, .int _] [] (sp_X2_fact G (d := d - 1) (by omega) s175 _ _) (rfl) rfl rfl (zr (by omega)) mk_X2_fact ly_7 ml_9_72 (Nat.le_of_ble_eq_true rfl) (fun x205 s204 hs204 => ?_)
                    obtain ⟨zs204, -⟩ := pI hs204
                    subst zs204
                    refine wa_goto o_X9_load_104 (by decide) ?_
                    refine wa_istoreD (lv' := [(5, .int x205), (0, .ref 60), (1, .ref 7), (3, .int l3), (4, .int l4)]) (by decide) rfl ?_
                    refine wa_iconst (v := 0) (by decide) ?_
                    refine wa_istoreD (lv' := [(6, .int 0), (5, .int x205), (0, .ref 60), (1, .ref 7), (3, .int l3), (4, .int l4)]) (by decide) rfl ?_
                    refine wa_pick [2, 3, 4, 5, 1, 0] rfl ?_
                    have hi208 : ∀ (n9_109 : Nat) (l3 : Int32) (l6 : Int32) (s206 : St), ((Sm 60 63 σ s206) ∧ (gi s206 7 10 = gi σ 7 10) ∧ (gi s206 7 11 = gi σ 7 11) ∧ (gi s206 7 13 = gi σ 7 13) ∧ (0 ≤ l6.toInt) ∧ (True)) → (2147483647 - l6.toInt).toNat = n9_109 → WA G M_X9_load (ZM G M_X9_load d (fun r σ' => ∃ x : Bool, r = some (.int (bI x)) ∧ Sm 60 63 σ σ' ∧ True)) B_X9_load_109 [(0, .ref 60), (1, .ref 7), (3, .int l3), (4, .int l4), (5, .int x205), (6, .int l6)] [] s206 := by
                      intro n9_109
                      induction n9_109 using Nat.strongRecOn with
                      | _ n9_109 ih207 =>
                        intro l3 l6 s206 i9 m9_109
                        obtain ⟨Fs206, khi208_0, khi208_1, khi208_2, jhi208_0, -⟩ := i9
                        have ul3 := Int32.toInt_lt l3
                        have wl3 := Int32.le_toInt l3
                        have ul6 := Int32.toInt_lt l6
                        have wl6 := Int32.le_toInt l6
                        refine wa_iload rfl ?_
                        refine wa_iload rfl ?_
                        refine wa_icmp_ge o_X9_load_138 (by decide) (fun h209 => ?_) (fun h209 => ?_)
                        · refine wa_aload_n (i := 1) rfl rfl ?_
                          refine wa_geti ck_2 fl_9_69 ly_7 ?_
                          refine wa_rw (khi208_2) ?_
                          refine wa_iload rfl ?_
                          refine wa_iushr ?_
                          refine wa_top (fun v210 hv210 => ?_)
                          clear hv210
                          refine wa_iconst (v := 1) (by decide) ?_
                          refine wa_iand ?_
                          refine wa_top (fun v211 hv211 => ?_)
                          have tv211 := i_andT hv211
                          clear hv211
                          refine wa_iconst (v := 1) (by decide) ?_
                          refine wa_icmp_ne o_X9_load_172 (by decide) (fun h212 => ?_) (fun h212 => ?_)
                          · refine wa_iinc (v := (1)) (lv' := fun y213 => [(4, .int y213), (0, .ref 60), (1, .ref 7), (3, .int l3), (5, .int x205), (6, .int l6)]) (by decide) rfl (by decide) (fun _ => rfl) (fun y213 hy213 => ?_)
                            have ty213 := i_addT hy213.symm
                            clear hy213
                            refine wa_goto o_X9_load_71 (by decide) ?_
                            refine wa_pick [1, 2, 3, 0] rfl ?_
                            exact ih176 _ (by ((try simp only [vp_in_iff, Int32.lt_iff_toInt_lt, Int32.le_iff_toInt_le, ← Int32.toInt_inj, Int32.reduceToInt, n_1, n_2, n_8, Int32.toNatClampNeg, Int64.lt_iff_toInt_lt, Int64.le_iff_toInt_le, ← Int64.toInt_inj, Int64.reduceToInt, Int32.toInt_toInt64, lg_cmp_ge, lg_cmp_le, lg_cmp_gt, lg_cmp_lt, lg_cmp_eq, Bool.false_eq_true, Bool.true_eq_false, reduceCtorEq, false_iff, true_iff, iff_true, iff_false, and_true, true_and, and_false, false_and, reduceIte, ite_true, ite_false, eq_self] at *)) <;> omega) _ _ _ ⟨Fs206, (khi208_0), (khi208_1), (khi208_2), (by ((try simp only [vp_in_iff, Int32.lt_iff_toInt_lt, Int32.le_iff_toInt_le, ← Int32.toInt_inj, Int32.reduceToInt, n_1, n_2, n_8, Int32.toNatClampNeg, Int64.lt_iff_toInt_lt, Int64.le_iff_toInt_le, ← Int64.toInt_inj, Int64.reduceToInt, Int32.toInt_toInt64, lg_cmp_ge, lg_cmp_le, lg_cmp_gt, lg_cmp_lt, lg_cmp_eq, Bool.false_eq_true, Bool.true_eq_false, reduceCtorEq, false_iff, true_iff, iff_true, iff_false, and_true, true_and, and_false, false_and, reduceIte, ite_true, ite_false, eq_self] at *)) <;> omega), trivial⟩ rfl
                          · refine wa_aload_n (i := 1) rfl rfl ?_
                            refine wa_iload rfl ?_
                            refine wa_bipush (v := 6) (by decide) ?_
                            refine wa_Vi (d9 := d - 1) [.int _, .int _] [] (sp_X2_fact G (d := d - 1) (by omega) s206 _ _) (rfl) rfl rfl (zr (by omega)) mk_X2_fact ly_7 ml_9_72 (Nat.le_of_ble_eq_true rfl) (fun x215 s214 hs214 => ?_)
                            obtain ⟨zs214, -⟩ := pI hs214
                            subst zs214
                            refine wa_iconst (v := 1) (by decide) ?_
                            refine wa_icmp_ne o_X9_load_172 (by decide) (fun h216 => ?_) (fun h216 => ?_)
                            · refine wa_iinc (v := (1)) (lv' := fun y217 => [(4, .int y217), (0, .ref 60), (1, .ref 7), (3, .int l3), (5, .int x205), (6, .int l6)]) (by decide) rfl (by decide) (fun _ => rfl) (fun y217 hy217 => ?_)
                              have ty217 := i_addT hy217.symm
                              clear hy217
                              refine wa_goto o_X9_load_71 (by decide) ?_
                              refine wa_pick [1, 2, 3, 0] rfl ?_
                              exact ih176 _ (by ((try simp only [vp_in_iff, Int32.lt_iff_toInt_lt, Int32.le_iff_toInt_le, ← Int32.toInt_inj, Int32.reduceToInt, n_1, n_2, n_8, Int32.toNatClampNeg, Int64.lt_iff_toInt_lt, Int64.le_iff_toInt_le, ← Int64.toInt_inj, Int64.reduceToInt, Int32.toInt_toInt64, lg_cmp_ge, lg_cmp_le, lg_cmp_gt, lg_cmp_lt, lg_cmp_eq, Bool.false_eq_true, Bool.true_eq_false, reduceCtorEq, false_iff, true_iff, iff_true, iff_false, and_true, true_and, and_false, false_and, reduceIte, ite_true, ite_false, eq_self] at *)) <;> omega) _ _ _ ⟨Fs206, (khi208_0), (khi208_1), (khi208_2), (by ((try simp only [vp_in_iff, Int32.lt_iff_toInt_lt, Int32.le_iff_toInt_le, ← Int32.toInt_inj, Int32.reduceToInt, n_1, n_2, n_8, Int32.toNatClampNeg, Int64.lt_iff_toInt_lt, Int64.le_iff_toInt_le, ← Int64.toInt_inj, Int64.reduceToInt, Int32.toInt_toInt64, lg_cmp_ge, lg_cmp_le, lg_cmp_gt, lg_cmp_lt, lg_cmp_eq, Bool.false_eq_true, Bool.true_eq_false, reduceCtorEq, false_iff, true_iff, iff_true, iff_false, and_true, true_and, and_false, false_and, reduceIte, ite_true, ite_false, eq_self] at *)) <;> omega), trivial⟩ rfl
                            · refine wa_iload_n (i := 3) rfl rfl ?_
                              refine wa_aload_n (i := 0) rfl rfl ?_
                              refine wa_aload_n (i := 1) rfl rfl ?_
                              refine wa_iconst (v := (-1)) (by decide) ?_
                              refine wa_Vi (d9 := d - 1) [.ref 7, .int _] [.int l3] (sp_X9_takeAtom G (d := d - 1) (by omega) s206 _) (rfl) rfl rfl (zr (by omega)) mk_X9_takeAtom ly_60 ml_9_78 (Nat.le_of_ble_eq_true rfl) (fun x219 s218 hs218 => ?_)
                              obtain ⟨bx219, ex219, fs218, -⟩ := pB hs218
                              subst ex219
                              have Fs218 := Sm.tr Fs206 (Sm.wd fs218 (lo' := 60) (hi' := 63) (by decide) (by decide))
                              refine wa_iand ?_
                              refine wa_top (fun v220 hv220 => ?_)
                              have tv220 := i_andT hv220
                              clear hv220
                              refine wa_istore_nD (lv' := [(3, .int v220), (0, .ref 60), (1, .ref 7), (4, .int l4), (5, .int x205), (6, .int l6)]) (i := 3) rfl (by decide) rfl ?_
                              refine wa_iinc (v := (1)) (lv' := fun y221 => [(4, .int y221), (3, .int v220), (0, .ref 60), (1, .ref 7), (5, .int x205), (6, .int l6)]) (by decide) rfl (by decide) (fun _ => rfl) (fun y221 hy221 => ?_)
                              have ty221 := i_addT hy221.symm
                              clear hy221
                              refine wa_goto o_X9_load_71 (by decide) ?_
                              refine wa_pick [2, 3, 1, 0] rfl ?_
                              exact ih176 _ (by ((try simp only [vp_in_iff, Int32.lt_iff_toInt_lt, Int32.le_iff_toInt_le, ← Int32.toInt_inj, Int32.reduceToInt, n_1, n_2, n_8, Int32.toNatClampNeg, Int64.lt_iff_toInt_lt, Int64.le_iff_toInt_le, ← Int64.toInt_inj, Int64.reduceToInt, Int32.toInt_toInt64, lg_cmp_ge, lg_cmp_le, lg_cmp_gt, lg_cmp_lt, lg_cmp_eq, Bool.false_eq_true, Bool.true_eq_false, reduceCtorEq, false_iff, true_iff, iff_true, iff_false, and_true, true_and, and_false, false_and, reduceIte, ite_true, ite_false, eq_self] at *)) <;> omega) _ _ _ ⟨Fs218, ((Sm.gi fs218 10 (Or.inl (by decide))).trans (khi208_0)), ((Sm.gi fs218 11 (Or.inl (by decide))).trans (khi208_1)), ((Sm.gi fs218 13 (Or.inl (by decide))).trans (khi208_2)), (by ((try simp only [vp_in_iff, Int32.lt_iff_toInt_lt, Int32.le_iff_toInt_le, ← Int32.toInt_inj, Int32.reduceToInt, n_1, n_2, n_8, Int32.toNatClampNeg, Int64.lt_iff_toInt_lt, Int64.le_iff_toInt_le, ← Int64.toInt_inj, Int64.reduceToInt, Int32.toInt_toInt64, lg_cmp_ge, lg_cmp_le, lg_cmp_gt, lg_cmp_lt, lg_cmp_eq, Bool.false_eq_true, Bool.true_eq_false, reduceCtorEq, false_iff, true_iff, iff_true, iff_false, and_true, true_and, and_false, false_and, reduceIte, ite_true, ite_false, eq_self] at *)) <;> omega), trivial⟩ rfl
                        · have mh209 := nle_mx h209
                          refine wa_iload_n (i := 3) rfl rfl ?_
                          refine wa_aload_n (i := 0) rfl rfl ?_
                          refine wa_aload_n (i := 1) rfl rfl ?_
                          refine wa_aload_n (i := 1) rfl rfl ?_
                          refine wa_iload rfl ?_
                          refine wa_iload rfl ?_
                          refine wa_Vi (d9 := d - 1) [.int _, .int _] [.ref 7, .ref 60, .int l3] (sp_X2_atomOf G (d := d - 1) (by omega) s206 _ _) (rfl) rfl rfl (zr (by omega)) mk_X2_atomOf ly_7 ml_9_75 (Nat.le_of_ble_eq_true rfl) (fun x223 s222 hs222 => ?_)
                          obtain ⟨zs222, -⟩ := pI hs222
                          subst zs222
                          refine wa_Vi (d9 := d - 1) [.ref 7, .int _] [.int l3] (sp_X9_takeAtom G (d := d - 1) (by omega) s206 _) (rfl) rfl rfl (zr (by omega)) mk_X9_takeAtom ly_60 ml_9_78 (Nat.le_of_ble_eq_true rfl) (fun x225 s224 hs224 => ?_)
                          obtain ⟨bx225, ex225, fs224, -⟩ := pB hs224
                          subst ex225
                          have Fs224 := Sm.tr Fs206 (Sm.wd fs224 (lo' := 60) (hi' := 63) (by decide) (by decide))
                          refine wa_iand ?_
                          refine wa_top (fun v226 hv226 => ?_)
                          have tv226 := i_andT hv226
                          clear hv226
                          refine wa_istore_nD (lv' := [(3, .int v226), (0, .ref 60), (1, .ref 7), (4, .int l4), (5, .int x205), (6, .int l6)]) (i := 3) rfl (by decide) rfl ?_
                          refine wa_iinc (v := (1)) (lv' := fun y227 => [(6, .int y227), (3, .int v226), (0, .ref 60), (1, .ref 7), (4, .int l4), (5, .int x205)]) (by decide) rfl (by decide) (fun _ => rfl) (fun y227 hy227 => ?_)
                          have ty227 := i_addT hy227.symm
                          clear hy227
                          refine wa_goto o_X9_load_109 (by decide) ?_
                          refine wa_pick [2, 3, 1, 4, 5, 0] rfl ?_
                          exact ih207 _ (by ((try simp only [vp_in_iff, Int32.lt_iff_toInt_lt, Int32.le_iff_toInt_le, ← Int32.toInt_inj, Int32.reduceToInt, n_1, n_2, n_8, Int32.toNatClampNeg, Int64.lt_iff_toInt_lt, Int64.le_iff_toInt_le, ← Int64.toInt_inj, Int64.reduceToInt, Int32.toInt_toInt64, lg_cmp_ge, lg_cmp_le, lg_cmp_gt, lg_cmp_lt, lg_cmp_eq, Bool.false_eq_true, Bool.true_eq_false, reduceCtorEq, false_iff, true_iff, iff_true, iff_false, and_true, true_and, and_false, false_and, reduceIte, ite_true, ite_false, eq_self] at *)) <;> omega) _ _ _ ⟨Fs224, ((Sm.gi fs224 10 (Or.inl (by decide))).trans (khi208_0)), ((Sm.gi fs224 11 (Or.inl (by decide))).trans (khi208_1)), ((Sm.gi fs224 13 (Or.inl (by decide))).trans (khi208_2)), (by ((try simp only [vp_in_iff, Int32.lt_iff_toInt_lt, Int32.le_iff_toInt_le, ← Int32.toInt_inj, Int32.reduceToInt, n_1, n_2, n_8, Int32.toNatClampNeg, Int64.lt_iff_toInt_lt, Int64.le_iff_toInt_le, ← Int64.toInt_inj, Int64.reduceToInt, Int32.toInt_toInt64, lg_cmp_ge, lg_cmp_le, lg_cmp_gt, lg_cmp_lt, lg_cmp_eq, Bool.false_eq_true, Bool.true_eq_false, reduceCtorEq, false_iff, true_iff, iff_true, iff_false, and_true, true_and, and_false, false_and, reduceIte, ite_true, ite_false, eq_self] at *)) <;> omega), trivial⟩ rfl
                    exact hi208 _ _ _ _ ⟨Fs175, (khi177_0), (khi177_1), (khi177_2), (by ((try simp only [vp_in_iff, Int32.lt_iff_toInt_lt, Int32.le_iff_toInt_le, ← Int32.toInt_inj, Int32.reduceToInt, n_1, n_2, n_8, Int32.toNatClampNeg, Int64.lt_iff_toInt_lt, Int64.le_iff_toInt_le, ← Int64.toInt_inj, Int64.reduceToInt, Int32.toInt_toInt64, lg_cmp_ge, lg_cmp_le, lg_cmp_gt, lg_cmp_lt, lg_cmp_eq, Bool.false_eq_true, Bool.true_eq_false, reduceCtorEq, false_iff, true_iff, iff_true, iff_false, and_true, true_and, and_false, false_and, reduceIte, ite_true, ite_false, eq_self] at *)) <;> omega), trivial⟩ rfl
            exact hi177 _ _ _ _ ⟨Fs174, ((nx_gi_sl hs174).trans (khi7_0)), ((nx_gi_sl hs174).trans (khi7_1)), ((nx_gi_sl hs174).trans (khi7_2)), (by ((try simp only [vp_in_iff, Int32.lt_iff_toInt_lt, Int32.le_iff_toInt_le, ← Int32.toInt_inj, Int32.reduceToInt, n_1, n_2, n_8, Int32.toNatClampNeg, Int64.lt_iff_toInt_lt, Int64.le_iff_toInt_le, ← Int64.toInt_inj, Int64.reduceToInt, Int32.toInt_toInt64, lg_cmp_ge, lg_cmp_le, lg_cmp_gt, lg_cmp_lt, lg_cmp_eq, Bool.false_eq_true, Bool.true_eq_false, reduceCtorEq, false_iff, true_iff, iff_true, iff_false, and_true, true_and, and_false, false_and, reduceIte, ite_true, ite_false, eq_self] at *)) <;> omega), trivial⟩ rfl
        · have mh118 := nle_mx h118
          refine wa_aload_n (i := 0) rfl rfl ?_
          refine wa_getr ck_9 fl_9_15 ly_60 rf_60_1 ?_
          refine wa_iload_n (i := 3) rfl rfl ?_
          refine wa_aload_n (i := 2) rfl rfl ?_
          refine wa_iload_n (i := 3) rfl rfl ?_
          refine wa_lald ly_29 (by ((try simp only [vp_in_iff, Int32.lt_iff_toInt_lt, Int32.le_iff_toInt_le, ← Int32.toInt_inj, Int32.reduceToInt, n_1, n_2, n_8, Int32.toNatClampNeg, Int64.lt_iff_toInt_lt, Int64.le_iff_toInt_le, ← Int64.toInt_inj, Int64.reduceToInt, Int32.toInt_toInt64, lg_cmp_ge, lg_cmp_le, lg_cmp_gt, lg_cmp_lt, lg_cmp_eq, Bool.false_eq_true, Bool.true_eq_false, reduceCtorEq, false_iff, true_iff, iff_true, iff_false, and_true, true_and, and_false, false_and, reduceIte, ite_true, ite_false, eq_self] at *)) <;> omega) ?_
          refine wa_last ly_62 (by ((try simp only [vp_in_iff, Int32.lt_iff_toInt_lt, Int32.le_iff_toInt_le, ← Int32.toInt_inj, Int32.reduceToInt, n_1, n_2, n_8, Int32.toNatClampNeg, Int64.lt_iff_toInt_lt, Int64.le_iff_toInt_le, ← Int64.toInt_inj, Int64.reduceToInt, Int32.toInt_toInt64, lg_cmp_ge, lg_cmp_le, lg_cmp_gt, lg_cmp_lt, lg_cmp_eq, Bool.false_eq_true, Bool.true_eq_false, reduceCtorEq, false_iff, true_iff, iff_true, iff_false, and_true, true_and, and_false, false_and, reduceIte, ite_true, ite_false, eq_self] at *)) <;> omega) (fun s228 hs228 => ?_)
          have Fs228 : Sm 60 63 σ s228 := by rw [hs228]; exact Sm.sl Fs5 _ _ (by decide) (by decide)
          refine wa_iinc (v := (1)) (lv' := fun y229 => [(3, .int y229), (0, .ref 60), (1, .ref 7), (2, .ref 29)]) (by decide) rfl (by decide) (fun _ => rfl) (fun y229 hy229 => ?_)
          have ty229 := i_addT hy229.symm
          clear hy229
          refine wa_goto o_X9_load_23 (by decide) ?_
          refine wa_pick [1, 2, 3, 0] rfl ?_
          exact ih6 _ (by ((try simp only [vp_in_iff, Int32.lt_iff_toInt_lt, Int32.le_iff_toInt_le, ← Int32.toInt_inj, Int32.reduceToInt, n_1, n_2, n_8, Int32.toNatClampNeg, Int64.lt_iff_toInt_lt, Int64.le_iff_toInt_le, ← Int64.toInt_inj, Int64.reduceToInt, Int32.toInt_toInt64, lg_cmp_ge, lg_cmp_le, lg_cmp_gt, lg_cmp_lt, lg_cmp_eq, Bool.false_eq_true, Bool.true_eq_false, reduceCtorEq, false_iff, true_iff, iff_true, iff_false, and_true, true_and, and_false, false_and, reduceIte, ite_true, ite_false, eq_self] at *)) <;> omega) _ _ ⟨Fs228, ((nx_gi_sl hs228).trans (khi7_0)), ((nx_gi_sl hs228).trans (khi7_1)), ((nx_gi_sl hs228).trans (khi7_2)), (by ((try simp only [vp_in_iff, Int32.lt_iff_toInt_lt, Int32.le_iff_toInt_le, ← Int32.toInt_inj, Int32.reduceToInt, n_1, n_2, n_8, Int32.toNatClampNeg, Int64.lt_iff_toInt_lt, Int64.le_iff_toInt_le, ← Int64.toInt_inj, Int64.reduceToInt, Int32.toInt_toInt64, lg_cmp_ge, lg_cmp_le, lg_cmp_gt, lg_cmp_lt, lg_cmp_eq, Bool.false_eq_true, Bool.true_eq_false, reduceCtorEq, false_iff, true_iff, iff_true, iff_false, and_true, true_and, and_false, false_and, reduceIte, ite_true, ite_false, eq_self] at *)) <;> omega), trivial⟩ rfl
  exact hi7 _ _ _ ⟨Fs4, ((nxq_gi_si hs4 (by decide)).trans (nxq_gi_si hs1 (by decide))), ((nxq_gi_si hs4 (by decide)).trans (nxq_gi_si hs1 (by decide))), ((nxq_gi_si hs4 (by decide)).trans (nxq_gi_si hs1 (by decide))), (by ((try simp only [vp_in_iff, Int32.lt_iff_toInt_lt, Int32.le_iff_toInt_le, ← Int32.toInt_inj, Int32.reduceToInt, n_1, n_2, n_8, Int32.toNatClampNeg, Int64.lt_iff_toInt_lt, Int64.le_iff_toInt_le, ← Int64.toInt_inj, Int64.reduceToInt, Int32.toInt_toInt64, lg_cmp_ge, lg_cmp_le, lg_cmp_gt, lg_cmp_lt, lg_cmp_eq, Bool.false_eq_true, Bool.true_eq_false, reduceCtorEq, false_iff, true_iff, iff_true, iff_false, and_true, true_and, and_false, false_and, reduceIte, ite_true, ite_false, eq_self] at *)) <;> omega), trivial⟩ rfl
set_option maxHeartbeats 4000000 in
theorem sp_X9_addLimit (G : kG9) {d : Nat} (hd : 2 ≤ d) (σ : St) (a0 : Int32) (a1 : Int32) (a2 : Int64) : Ct G M_X9_addLimit d [.ref 60, .int a0, .int a1, .long a2] σ (fun r σ' => Sm 60 62 σ σ' ∧ True) := by
  refine wa_start (by decide) rfl (Nat.le_of_ble_eq_true rfl) (lv := [(0, .ref 60), (1, .int a0), (2, .int a1), (3, .long a2)]) rfl o_X9_addLimit_0 rfl ?_
  have ua0 := Int32.toInt_lt a0
  have wa0 := Int32.le_toInt a0
  have ua1 := Int32.toInt_lt a1
  have wa1 := Int32.le_toInt a1
  refine wa_aload_n (i := 0) rfl rfl ?_
  refine wa_aload_n (i := 0) rfl rfl ?_
  refine wa_geti ck_9 fl_9_44 ly_60 ?_
  refine wa_Vv (d9 := d - 1) [.int _] [] (sp_X9_clearRow G (d := d - 1) (by omega) σ _) (rfl) rfl rfl (zr (by omega)) mk_X9_clearRow ly_60 ml_9_82 (Nat.le_of_ble_eq_true rfl) (fun s1 hs1 => ?_)
  obtain ⟨fs1, -⟩ := hs1
  have Fs1 := Sm.tr (Sm.rf 60 62 σ) (Sm.wd fs1 (lo' := 60) (hi' := 62) (by decide) (by decide))
  refine wa_aload_n (i := 0) rfl rfl ?_
  refine wa_aload_n (i := 0) rfl rfl ?_
  refine wa_geti ck_9 fl_9_44 ly_60 ?_
  refine wa_rw (Sm.gi fs1 11 (Or.inl (by decide))) ?_
  refine wa_iload_n (i := 1) rfl rfl ?_
  refine wa_iload_n (i := 2) rfl rfl ?_
  refine wa_i2l ?_
  refine wa_Vv (d9 := d - 1) [.int _, .int _, .long _] [] (sp_X9_setRow G (d := d - 1) (by omega) s1 _ _ _) (rfl) rfl rfl (zr (by omega)) mk_X9_setRow ly_60 ml_9_91 (Nat.le_of_ble_eq_true rfl) (fun s3 hs3 => ?_)
  obtain ⟨fs3, -⟩ := hs3
  have Fs3 := Sm.tr Fs1 (Sm.wd fs3 (lo' := 60) (hi' := 62) (by decide) (by decide))
  refine wa_aload_n (i := 0) rfl rfl ?_
  refine wa_aload_n (i := 0) rfl rfl ?_
  refine wa_geti ck_9 fl_9_44 ly_60 ?_
  refine wa_rw ((Sm.gi fs3 11 (Or.inl (by decide))).trans (Sm.gi fs1 11 (Or.inl (by decide)))) ?_
  refine wa_iconst (v := 4) (by decide) ?_
  refine wa_lload_n (i := 3) rfl rfl ?_
  refine wa_Vv (d9 := d - 1) [.int _, .int _, .long _] [] (sp_X9_setRow G (d := d - 1) (by omega) s3 _ _ _) (rfl) rfl rfl (zr (by omega)) mk_X9_setRow ly_60 ml_9_91 (Nat.le_of_ble_eq_true rfl) (fun s5 hs5 => ?_)
  obtain ⟨fs5, -⟩ := hs5
  have Fs5 := Sm.tr Fs3 (Sm.wd fs5 (lo' := 60) (hi' := 62) (by decide) (by decide))
  refine wa_aload_n (i := 0) rfl rfl ?_
  refine wa_aload_n (i := 0) rfl rfl ?_
  refine wa_geti ck_9 fl_9_44 ly_60 ?_
  refine wa_rw ((Sm.gi fs5 11 (Or.inl (by decide))).trans ((Sm.gi fs3 11 (Or.inl (by decide))).trans (Sm.gi fs1 11 (Or.inl (by decide))))) ?_
  refine wa_iconst (v := 1) (by decide) ?_
  refine wa_iadd ?_
  refine wa_top (fun v7 hv7 => ?_)
  have tv7 := i_addT hv7
  clear hv7
  refine wa_sipush (v := 479) (by decide) ?_
  refine wa_minI zs (allW_in (kT_7 _ (List.mem_of_getElem? (i := 143) rfl)) rfl) (Nat.le_of_ble_eq_true rfl) ?_
  refine wa_top (fun v8 hv8 => ?_)
  have tv8 := i_minI hv8
  clear hv8
  refine wa_puti ck_9 fl_9_44 ly_60 (fun s9 hs9 => ?_)
  have Fs9 : Sm 60 62 σ s9 := by rw [hs9]; exact Sm.si Fs5 _ _ (by decide) (by decide)
  refine wa_return (st := []) rfl rfl ?_
  exact ⟨Fs9, trivial⟩
set_option maxRecDepth 100000 in
set_option maxHeartbeats 4000000 in
theorem sp_J7_fill_d0a16_at_64 (G : kG9) {d : Nat} (hd : 0 ≤ d) (σ : St) (a1 : Int64) : Ct G M_J7_fill_d0a16 d [.ref 64, .long a1] σ (fun r σ' => Sm 64 65 σ σ' ∧ True) := by
  refine wa_startF (by decide +kernel) rfl (Nat.le_of_ble_eq_true rfl) (lv := [(0, .ref 64), (1, .long a1)]) rfl o_J7_fill_d0a16_0 rfl ?_
  refine wa_iconst (v := 0) (by decide) ?_
  refine wa_istore_nD (lv' := [(3, .int 0), (0, .ref 64), (1, .long a1)]) (i := 3) rfl (by decide) rfl ?_
  refine wa_aload_n (i := 0) rfl rfl ?_
  refine wa_alen ly_64 (by decide) ?_
  refine wa_rw (show Int32.ofNat 16 = 16 from rfl) ?_
  refine wa_istoreD (lv' := [(4, .int 16), (3, .int 0), (0, .ref 64), (1, .long a1)]) (by decide) rfl ?_
  refine wa_pick [2, 3, 1, 0] rfl ?_
  have hi3 : ∀ (n9_6 : Nat) (l3 : Int32) (s1 : St), ((Sm 64 65 σ s1) ∧ (0 ≤ l3.toInt) ∧ (True)) → (2147483647 - l3.toInt).toNat = n9_6 → WA G M_J7_fill_d0a16 (ZM G M_J7_fill_d0a16 d (fun r σ' => Sm 64 65 σ σ' ∧ True)) B_J7_fill_d0a16_6 [(0, .ref 64), (1, .long a1), (3, .int l3), (4, .int 16)] [] s1 := by
    intro n9_6
    induction n9_6 using Nat.strongRecOn with
    | _ n9_6 ih2 =>
      intro l3 s1 i9 m9_6
      obtain ⟨Fs1, jhi3_0, -⟩ := i9
      have ul3 := Int32.toInt_lt l3
      have wl3 := Int32.le_toInt l3
      refine wa_iload_n (i := 3) rfl rfl ?_
      refine wa_iload rfl ?_
      refine wa_icmp_ge o_J7_fill_d0a16_22 (by decide) (fun h4 => ?_) (fun h4 => ?_)
      · refine wa_return (st := []) rfl rfl ?_
        exact ⟨Fs1, trivial⟩
      · have mh4 := nle_mx h4
        refine wa_aload_n (i := 0) rfl rfl ?_
        refine wa_iload_n (i := 3) rfl rfl ?_
        refine wa_lload_n (i := 1) rfl rfl ?_
        refine wa_last ly_64 (by ((try simp only [vp_in_iff, Int32.lt_iff_toInt_lt, Int32.le_iff_toInt_le, ← Int32.toInt_inj, Int32.reduceToInt, n_1, n_2, n_8, Int32.toNatClampNeg, Int64.lt_iff_toInt_lt, Int64.le_iff_toInt_le, ← Int64.toInt_inj, Int64.reduceToInt, Int32.toInt_toInt64, lg_cmp_ge, lg_cmp_le, lg_cmp_gt, lg_cmp_lt, lg_cmp_eq, Bool.false_eq_true, Bool.true_eq_false, reduceCtorEq, false_iff, true_iff, iff_true, iff_false, and_true, true_and, and_false, false_and, reduceIte, ite_true, ite_false, eq_self] at *)) <;> omega) (fun s5 hs5 => ?_)
        have Fs5 : Sm 64 65 σ s5 := by rw [hs5]; exact Sm.sl Fs1 _ _ (by decide) (by decide)
        refine wa_iinc (v := (1)) (lv' := fun y6 => [(3, .int y6), (0, .ref 64), (1, .long a1), (4, .int 16)]) (by decide) rfl (by decide) (fun _ => rfl) (fun y6 hy6 => ?_)
        have ty6 := i_addT hy6.symm
        clear hy6
        refine wa_goto o_J7_fill_d0a16_6 (by decide) ?_
        refine wa_pick [1, 2, 0, 3] rfl ?_
        exact ih2 _ (by ((try simp only [vp_in_iff, Int32.lt_iff_toInt_lt, Int32.le_iff_toInt_le, ← Int32.toInt_inj, Int32.reduceToInt, n_1, n_2, n_8, Int32.toNatClampNeg, Int64.lt_iff_toInt_lt, Int64.le_iff_toInt_le, ← Int64.toInt_inj, Int64.reduceToInt, Int32.toInt_toInt64, lg_cmp_ge, lg_cmp_le, lg_cmp_gt, lg_cmp_lt, lg_cmp_eq, Bool.false_eq_true, Bool.true_eq_false, reduceCtorEq, false_iff, true_iff, iff_true, iff_false, and_true, true_and, and_false, false_and, reduceIte, ite_true, ite_false, eq_self] at *)) <;> omega) _ _ ⟨Fs5, (by ((try simp only [vp_in_iff, Int32.lt_iff_toInt_lt, Int32.le_iff_toInt_le, ← Int32.toInt_inj, Int32.reduceToInt, n_1, n_2, n_8, Int32.toNatClampNeg, Int64.lt_iff_toInt_lt, Int64.le_iff_toInt_le, ← Int64.toInt_inj, Int64.reduceToInt, Int32.toInt_toInt64, lg_cmp_ge, lg_cmp_le, lg_cmp_gt, lg_cmp_lt, lg_cmp_eq, Bool.false_eq_true, Bool.true_eq_false, reduceCtorEq, false_iff, true_iff, iff_true, iff_false, and_true, true_and, and_false, false_and, reduceIte, ite_true, ite_false, eq_self] at *)) <;> omega), trivial⟩ rfl
  exact hi3 _ _ _ ⟨(Sm.rf 64 65 σ), (by ((try simp only [vp_in_iff, Int32.lt_iff_toInt_lt, Int32.le_iff_toInt_le, ← Int32.toInt_inj, Int32.reduceToInt, n_1, n_2, n_8, Int32.toNatClampNeg, Int64.lt_iff_toInt_lt, Int64.le_iff_toInt_le, ← Int64.toInt_inj, Int64.reduceToInt, Int32.toInt_toInt64, lg_cmp_ge, lg_cmp_le, lg_cmp_gt, lg_cmp_lt, lg_cmp_eq, Bool.false_eq_true, Bool.true_eq_false, reduceCtorEq, false_iff, true_iff, iff_true, iff_false, and_true, true_and, and_false, false_and, reduceIte, ite_true, ite_false, eq_self] at *)) <;> omega), trivial⟩ rfl
set_option maxHeartbeats 4000000 in
theorem sp_X9_beginEndless (G : kG9) {d : Nat} (hd : 1 ≤ d) (σ : St) : Ct G M_X9_beginEndless d [.ref 60] σ (fun r σ' => Sm 60 65 σ σ' ∧ True) := by
  refine wa_start (by decide) rfl (Nat.le_of_ble_eq_true rfl) (lv := [(0, .ref 60)]) rfl o_X9_beginEndless_0 rfl ?_
  refine wa_aload_n (i := 0) rfl rfl ?_
  refine wa_getr ck_9 fl_9_22 ly_60 rf_60_3 ?_
  refine wa_lconst (v := 0) (by decide) ?_
  refine wa_Sv (d9 := d - 1) [.ref 64, .long _] [] (sp_J7_fill_d0a16_at_64 G (d := d - 1) (by omega) σ _) (rfl) rfl rfl (zr (by omega)) mk_J7_fill_d0a16 ml_9_147 (Nat.le_of_ble_eq_true rfl) (fun s1 hs1 => ?_)
  obtain ⟨fs1, -⟩ := hs1
  have Fs1 := Sm.tr (Sm.rf 60 65 σ) (Sm.wd fs1 (lo' := 60) (hi' := 65) (by decide) (by decide))
  refine wa_aload_n (i := 0) rfl rfl ?_
  refine wa_lconst (v := 1) (by decide) ?_
  refine wa_putl ck_9 fl_9_37 ly_60 (fun s3 hs3 => ?_)
  have Fs3 : Sm 60 65 σ s3 := by rw [hs3]; exact Sm.sl Fs1 _ _ (by decide) (by decide)
  refine wa_iconst (v := 0) (by decide) ?_
  refine wa_istore_nD (lv' := [(1, .int 0), (0, .ref 60)]) (i := 1) rfl (by decide) rfl ?_
  refine wa_pick [1, 0] rfl ?_
  have hi6 : ∀ (n9_15 : Nat) (l1 : Int32) (s4 : St), ((Sm 60 65 σ s4) ∧ (0 ≤ l1.toInt) ∧ (True)) → (2147483647 - l1.toInt).toNat = n9_15 → WA G M_X9_beginEndless (ZM G M_X9_beginEndless d (fun r σ' => Sm 60 65 σ σ' ∧ True)) B_X9_beginEndless_15 [(0, .ref 60), (1, .int l1)] [] s4 := by
    intro n9_15
    induction n9_15 using Nat.strongRecOn with
    | _ n9_15 ih5 =>
      intro l1 s4 i9 m9_15
      obtain ⟨Fs4, jhi6_0, -⟩ := i9
      have ul1 := Int32.toInt_lt l1
      have wl1 := Int32.le_toInt l1
      refine wa_iload_n (i := 1) rfl rfl ?_
      refine wa_iconst (v := 4) (by decide) ?_
      refine wa_icmp_ge o_X9_beginEndless_61 (by decide) (fun h7 => ?_) (fun h7 => ?_)
      · refine wa_return (st := []) rfl rfl ?_
        exact ⟨Fs4, trivial⟩
      · have mh7 := nle_mx h7
        refine wa_aload_n (i := 0) rfl rfl ?_
        refine wa_getr ck_9 fl_9_22 ly_60 rf_60_3 ?_
        refine wa_iload_n (i := 1) rfl rfl ?_
        refine wa_iconst (v := 4) (by decide) ?_
        refine wa_imul ?_
        refine wa_top (fun v8 hv8 => ?_)
        have tv8 := i_mulT hv8
        clear hv8
        refine wa_iload_n (i := 1) rfl rfl ?_
        refine wa_iadd ?_
        refine wa_top (fun v9 hv9 => ?_)
        have tv9 := i_addT hv9
        clear hv9
        refine wa_aload_n (i := 0) rfl rfl ?_
        refine wa_getr ck_9 fl_9_15 ly_60 rf_60_1 ?_
        refine wa_iload_n (i := 1) rfl rfl ?_
        refine wa_lald ly_62 (by ((try simp only [vp_in_iff, Int32.lt_iff_toInt_lt, Int32.le_iff_toInt_le, ← Int32.toInt_inj, Int32.reduceToInt, n_1, n_2, n_8, Int32.toNatClampNeg, Int64.lt_iff_toInt_lt, Int64.le_iff_toInt_le, ← Int64.toInt_inj, Int64.reduceToInt, Int32.toInt_toInt64, lg_cmp_ge, lg_cmp_le, lg_cmp_gt, lg_cmp_lt, lg_cmp_eq, Bool.false_eq_true, Bool.true_eq_false, reduceCtorEq, false_iff, true_iff, iff_true, iff_false, and_true, true_and, and_false, false_and, reduceIte, ite_true, ite_false, eq_self] at *)) <;> omega) ?_
        refine wa_lconst (v := 0) (by decide) ?_
        refine wa_lcmp ?_
        refine wa_top (fun v10 hv10 => ?_)
        have tv10 := i_cmpT hv10
        clear hv10
        refine wa_if_le o_X9_beginEndless_44 (by decide) (fun h11 => ?_) (fun h11 => ?_)
        · refine wa_ldc2 (v := (-1)) (allW_in (kT_7 _ (List.mem_of_getElem? (i := 160) rfl)) rfl) ?_
          refine wa_last ly_64 (by ((try simp only [vp_in_iff, Int32.lt_iff_toInt_lt, Int32.le_iff_toInt_le, ← Int32.toInt_inj, Int32.reduceToInt, n_1, n_2, n_8, Int32.toNatClampNeg, Int64.lt_iff_toInt_lt, Int64.le_iff_toInt_le, ← Int64.toInt_inj, Int64.reduceToInt, Int32.toInt_toInt64, lg_cmp_ge, lg_cmp_le, lg_cmp_gt, lg_cmp_lt, lg_cmp_eq, Bool.false_eq_true, Bool.true_eq_false, reduceCtorEq, false_iff, true_iff, iff_true, iff_false, and_true, true_and, and_false, false_and, reduceIte, ite_true, ite_false, eq_self] at *)) <;> omega) (fun s12 hs12 => ?_)
          have Fs12 : Sm 60 65 σ s12 := by rw [hs12]; exact Sm.sl Fs4 _ _ (by decide) (by decide)
          refine wa_aload_n (i := 0) rfl rfl ?_
          refine wa_getr ck_9 fl_9_18 ly_60 rf_60_2 ?_
          refine wa_iload_n (i := 1) rfl rfl ?_
          refine wa_iconst (v := (-1)) (by decide) ?_
          refine wa_iast ly_63 (by ((try simp only [vp_in_iff, Int32.lt_iff_toInt_lt, Int32.le_iff_toInt_le, ← Int32.toInt_inj, Int32.reduceToInt, n_1, n_2, n_8, Int32.toNatClampNeg, Int64.lt_iff_toInt_lt, Int64.le_iff_toInt_le, ← Int64.toInt_inj, Int64.reduceToInt, Int32.toInt_toInt64, lg_cmp_ge, lg_cmp_le, lg_cmp_gt, lg_cmp_lt, lg_cmp_eq, Bool.false_eq_true, Bool.true_eq_false, reduceCtorEq, false_iff, true_iff, iff_true, iff_false, and_true, true_and, and_false, false_and, reduceIte, ite_true, ite_false, eq_self] at *)) <;> omega) (fun s13 hs13 => ?_)
          have Fs13 : Sm 60 65 σ s13 := by rw [hs13]; exact Sm.si Fs12 _ _ (by decide) (by decide)
          refine wa_iinc (v := (1)) (lv' := fun y14 => [(1, .int y14), (0, .ref 60)]) (by decide) rfl (by decide) (fun _ => rfl) (fun y14 hy14 => ?_)
          have ty14 := i_addT hy14.symm
          clear hy14
          refine wa_goto o_X9_beginEndless_15 (by decide) ?_
          refine wa_pick [1, 0] rfl ?_
          exact ih5 _ (by ((try simp only [vp_in_iff, Int32.lt_iff_toInt_lt, Int32.le_iff_toInt_le, ← Int32.toInt_inj, Int32.reduceToInt, n_1, n_2, n_8, Int32.toNatClampNeg, Int64.lt_iff_toInt_lt, Int64.le_iff_toInt_le, ← Int64.toInt_inj, Int64.reduceToInt, Int32.toInt_toInt64, lg_cmp_ge, lg_cmp_le, lg_cmp_gt, lg_cmp_lt, lg_cmp_eq, Bool.false_eq_true, Bool.true_eq_false, reduceCtorEq, false_iff, true_iff, iff_true, iff_false, and_true, true_and, and_false, false_and, reduceIte, ite_true, ite_false, eq_self] at *)) <;> omega) _ _ ⟨Fs13, (by ((try simp only [vp_in_iff, Int32.lt_iff_toInt_lt, Int32.le_iff_toInt_le, ← Int32.toInt_inj, Int32.reduceToInt, n_1, n_2, n_8, Int32.toNatClampNeg, Int64.lt_iff_toInt_lt, Int64.le_iff_toInt_le, ← Int64.toInt_inj, Int64.reduceToInt, Int32.toInt_toInt64, lg_cmp_ge, lg_cmp_le, lg_cmp_gt, lg_cmp_lt, lg_cmp_eq, Bool.false_eq_true, Bool.true_eq_false, reduceCtorEq, false_iff, true_iff, iff_true, iff_false, and_true, true_and, and_false, false_and, reduceIte, ite_true, ite_false, eq_self] at *)) <;> omega), trivial⟩ rfl
        · refine wa_lconst (v := 1) (by decide) ?_
          refine wa_goto o_X9_beginEndless_47 (by decide) ?_
          refine wa_last ly_64 (by ((try simp only [vp_in_iff, Int32.lt_iff_toInt_lt, Int32.le_iff_toInt_le, ← Int32.toInt_inj, Int32.reduceToInt, n_1, n_2, n_8, Int32.toNatClampNeg, Int64.lt_iff_toInt_lt, Int64.le_iff_toInt_le, ← Int64.toInt_inj, Int64.reduceToInt, Int32.toInt_toInt64, lg_cmp_ge, lg_cmp_le, lg_cmp_gt, lg_cmp_lt, lg_cmp_eq, Bool.false_eq_true, Bool.true_eq_false, reduceCtorEq, false_iff, true_iff, iff_true, iff_false, and_true, true_and, and_false, false_and, reduceIte, ite_true, ite_false, eq_self] at *)) <;> omega) (fun s15 hs15 => ?_)
          have Fs15 : Sm 60 65 σ s15 := by rw [hs15]; exact Sm.sl Fs4 _ _ (by decide) (by decide)
          refine wa_aload_n (i := 0) rfl rfl ?_
          refine wa_getr ck_9 fl_9_18 ly_60 rf_60_2 ?_
          refine wa_iload_n (i := 1) rfl rfl ?_
          refine wa_iconst (v := (-1)) (by decide) ?_
          refine wa_iast ly_63 (by ((try simp only [vp_in_iff, Int32.lt_iff_toInt_lt, Int32.le_iff_toInt_le, ← Int32.toInt_inj, Int32.reduceToInt, n_1, n_2, n_8, Int32.toNatClampNeg, Int64.lt_iff_toInt_lt, Int64.le_iff_toInt_le, ← Int64.toInt_inj, Int64.reduceToInt, Int32.toInt_toInt64, lg_cmp_ge, lg_cmp_le, lg_cmp_gt, lg_cmp_lt, lg_cmp_eq, Bool.false_eq_true, Bool.true_eq_false, reduceCtorEq, false_iff, true_iff, iff_true, iff_false, and_true, true_and, and_false, false_and, reduceIte, ite_true, ite_false, eq_self] at *)) <;> omega) (fun s16 hs16 => ?_)
          have Fs16 : Sm 60 65 σ s16 := by rw [hs16]; exact Sm.si Fs15 _ _ (by decide) (by decide)
          refine wa_iinc (v := (1)) (lv' := fun y17 => [(1, .int y17), (0, .ref 60)]) (by decide) rfl (by decide) (fun _ => rfl) (fun y17 hy17 => ?_)
          have ty17 := i_addT hy17.symm
          clear hy17
          refine wa_goto o_X9_beginEndless_15 (by decide) ?_
          refine wa_pick [1, 0] rfl ?_
          exact ih5 _ (by ((try simp only [vp_in_iff, Int32.lt_iff_toInt_lt, Int32.le_iff_toInt_le, ← Int32.toInt_inj, Int32.reduceToInt, n_1, n_2, n_8, Int32.toNatClampNeg, Int64.lt_iff_toInt_lt, Int64.le_iff_toInt_le, ← Int64.toInt_inj, Int64.reduceToInt, Int32.toInt_toInt64, lg_cmp_ge, lg_cmp_le, lg_cmp_gt, lg_cmp_lt, lg_cmp_eq, Bool.false_eq_true, Bool.true_eq_false, reduceCtorEq, false_iff, true_iff, iff_true, iff_false, and_true, true_and, and_false, false_and, reduceIte, ite_true, ite_false, eq_self] at *)) <;> omega) _ _ ⟨Fs16, (by ((try simp only [vp_in_iff, Int32.lt_iff_toInt_lt, Int32.le_iff_toInt_le, ← Int32.toInt_inj, Int32.reduceToInt, n_1, n_2, n_8, Int32.toNatClampNeg, Int64.lt_iff_toInt_lt, Int64.le_iff_toInt_le, ← Int64.toInt_inj, Int64.reduceToInt, Int32.toInt_toInt64, lg_cmp_ge, lg_cmp_le, lg_cmp_gt, lg_cmp_lt, lg_cmp_eq, Bool.false_eq_true, Bool.true_eq_false, reduceCtorEq, false_iff, true_iff, iff_true, iff_false, and_true, true_and, and_false, false_and, reduceIte, ite_true, ite_false, eq_self] at *)) <;> omega), trivial⟩ rfl
  exact hi6 _ _ _ ⟨Fs3, (by ((try simp only [vp_in_iff, Int32.lt_iff_toInt_lt, Int32.le_iff_toInt_le, ← Int32.toInt_inj, Int32.reduceToInt, n_1, n_2, n_8, Int32.toNatClampNeg, Int64.lt_iff_toInt_lt, Int64.le_iff_toInt_le, ← Int64.toInt_inj, Int64.reduceToInt, Int32.toInt_toInt64, lg_cmp_ge, lg_cmp_le, lg_cmp_gt, lg_cmp_lt, lg_cmp_eq, Bool.false_eq_true, Bool.true_eq_false, reduceCtorEq, false_iff, true_iff, iff_true, iff_false, and_true, true_and, and_false, false_and, reduceIte, ite_true, ite_false, eq_self] at *)) <;> omega), trivial⟩ rfl
set_option maxHeartbeats 4000000 in
theorem sp_X9_locate (G : kG9) {d : Nat} (hd : 1 ≤ d) (σ : St) : Ct G M_X9_locate d [.ref 60] σ (fun r σ' => Sm 60 68 σ σ' ∧ True) := by
  refine wa_start (by decide) rfl (Nat.le_of_ble_eq_true rfl) (lv := [(0, .ref 60)]) rfl o_X9_locate_0 rfl ?_
  refine wa_aload_n (i := 0) rfl rfl ?_
  refine wa_aload_n (i := 0) rfl rfl ?_
  refine wa_getl ck_9 fl_9_37 ly_60 ?_
  refine wa_putl ck_9 fl_9_41 ly_60 (fun s1 hs1 => ?_)
  have Fs1 : Sm 60 68 σ s1 := by rw [hs1]; exact Sm.sl (Sm.rf 60 68 σ) _ _ (by decide) (by decide)
  refine wa_iconst (v := 0) (by decide) ?_
  refine wa_istore_nD (lv' := [(1, .int 0), (0, .ref 60)]) (i := 1) rfl (by decide) rfl ?_
  refine wa_pick [1, 0] rfl ?_
  have hi4 : ∀ (n9_10 : Nat) (l1 : Int32) (s2 : St), ((Sm 60 68 σ s2) ∧ (gl s2 60 9 = gl σ 60 9) ∧ (gi s2 60 12 = gi σ 60 12) ∧ (0 ≤ l1.toInt) ∧ (True)) → (2147483647 - l1.toInt).toNat = n9_10 → WA G M_X9_locate (ZM G M_X9_locate d (fun r σ' => Sm 60 68 σ σ' ∧ True)) B_X9_locate_10 [(0, .ref 60), (1, .int l1)] [] s2 := by
    intro n9_10
    induction n9_10 using Nat.strongRecOn with
    | _ n9_10 ih3 =>
      intro l1 s2 i9 m9_10
      obtain ⟨Fs2, khi4_0, khi4_1, jhi4_0, -⟩ := i9
      have ul1 := Int32.toInt_lt l1
      have wl1 := Int32.le_toInt l1
      refine wa_iload_n (i := 1) rfl rfl ?_
      refine wa_iconst (v := 4) (by decide) ?_
      refine wa_icmp_ge o_X9_locate_107 (by decide) (fun h5 => ?_) (fun h5 => ?_)
      · refine wa_return (st := []) rfl rfl ?_
        exact ⟨Fs2, trivial⟩
      · have mh5 := nle_mx h5
        refine wa_aload_n (i := 0) rfl rfl ?_
        refine wa_getr ck_9 fl_9_28 ly_60 rf_60_5 ?_
        refine wa_iload_n (i := 1) rfl rfl ?_
        refine wa_lconst (v := 0) (by decide) ?_
        refine wa_last ly_66 (by ((try simp only [vp_in_iff, Int32.lt_iff_toInt_lt, Int32.le_iff_toInt_le, ← Int32.toInt_inj, Int32.reduceToInt, n_1, n_2, n_8, Int32.toNatClampNeg, Int64.lt_iff_toInt_lt, Int64.le_iff_toInt_le, ← Int64.toInt_inj, Int64.reduceToInt, Int32.toInt_toInt64, lg_cmp_ge, lg_cmp_le, lg_cmp_gt, lg_cmp_lt, lg_cmp_eq, Bool.false_eq_true, Bool.true_eq_false, reduceCtorEq, false_iff, true_iff, iff_true, iff_false, and_true, true_and, and_false, false_and, reduceIte, ite_true, ite_false, eq_self] at *)) <;> omega) (fun s6 hs6 => ?_)
        have Fs6 : Sm 60 68 σ s6 := by rw [hs6]; exact Sm.sl Fs2 _ _ (by decide) (by decide)
        refine wa_aload_n (i := 0) rfl rfl ?_
        refine wa_getr ck_9 fl_9_31 ly_60 rf_60_6 ?_
        refine wa_iload_n (i := 1) rfl rfl ?_
        refine wa_lconst (v := 0) (by decide) ?_
        refine wa_last ly_67 (by ((try simp only [vp_in_iff, Int32.lt_iff_toInt_lt, Int32.le_iff_toInt_le, ← Int32.toInt_inj, Int32.reduceToInt, n_1, n_2, n_8, Int32.toNatClampNeg, Int64.lt_iff_toInt_lt, Int64.le_iff_toInt_le, ← Int64.toInt_inj, Int64.reduceToInt, Int32.toInt_toInt64, lg_cmp_ge, lg_cmp_le, lg_cmp_gt, lg_cmp_lt, lg_cmp_eq, Bool.false_eq_true, Bool.true_eq_false, reduceCtorEq, false_iff, true_iff, iff_true, iff_false, and_true, true_and, and_false, false_and, reduceIte, ite_true, ite_false, eq_self] at *)) <;> omega) (fun s7 hs7 => ?_)
        have Fs7 : Sm 60 68 σ s7 := by rw [hs7]; exact Sm.sl Fs6 _ _ (by decide) (by decide)
        refine wa_iconst (v := 0) (by decide) ?_
        refine wa_istore_nD (lv' := [(2, .int 0), (0, .ref 60), (1, .int l1)]) (i := 2) rfl (by decide) rfl ?_
        refine wa_pick [1, 2, 0] rfl ?_
        have hi10 : ∀ (n9_31 : Nat) (l2 : Int32) (s8 : St), ((Sm 60 68 σ s8) ∧ (gl s8 60 9 = gl σ 60 9) ∧ (gi s8 60 12 = gi σ 60 12) ∧ (0 ≤ l2.toInt) ∧ (True)) → (2147483647 - l2.toInt).toNat = n9_31 → WA G M_X9_locate (ZM G M_X9_locate d (fun r σ' => Sm 60 68 σ σ' ∧ True)) B_X9_locate_31 [(0, .ref 60), (1, .int l1), (2, .int l2)] [] s8 := by
          intro n9_31
          induction n9_31 using Nat.strongRecOn with
          | _ n9_31 ih9 =>
            intro l2 s8 i9 m9_31
            obtain ⟨Fs8, khi10_0, khi10_1, jhi10_0, -⟩ := i9
            have ul2 := Int32.toInt_lt l2
            have wl2 := Int32.le_toInt l2
            refine wa_iload_n (i := 2) rfl rfl ?_
            refine wa_aload_n (i := 0) rfl rfl ?_
            refine wa_geti ck_9 fl_9_62 ly_60 ?_
            refine wa_rw (khi10_1) ?_
            refine wa_icmp_ge o_X9_locate_101 (by decide) (fun h11 => ?_) (fun h11 => ?_)
            · refine wa_iinc (v := (1)) (lv' := fun y12 => [(1, .int y12), (0, .ref 60), (2, .int l2)]) (by decide) rfl (by decide) (fun _ => rfl) (fun y12 hy12 => ?_)
              have ty12 := i_addT hy12.symm
              clear hy12
              refine wa_goto o_X9_locate_10 (by decide) ?_
              refine wa_pick [1, 0] rfl ?_
              exact ih3 _ (by ((try simp only [vp_in_iff, Int32.lt_iff_toInt_lt, Int32.le_iff_toInt_le, ← Int32.toInt_inj, Int32.reduceToInt, n_1, n_2, n_8, Int32.toNatClampNeg, Int64.lt_iff_toInt_lt, Int64.le_iff_toInt_le, ← Int64.toInt_inj, Int64.reduceToInt, Int32.toInt_toInt64, lg_cmp_ge, lg_cmp_le, lg_cmp_gt, lg_cmp_lt, lg_cmp_eq, Bool.false_eq_true, Bool.true_eq_false, reduceCtorEq, false_iff, true_iff, iff_true, iff_false, and_true, true_and, and_false, false_and, reduceIte, ite_true, ite_false, eq_self] at *)) <;> omega) _ _ ⟨Fs8, (khi10_0), (khi10_1), (by ((try simp only [vp_in_iff, Int32.lt_iff_toInt_lt, Int32.le_iff_toInt_le, ← Int32.toInt_inj, Int32.reduceToInt, n_1, n_2, n_8, Int32.toNatClampNeg, Int64.lt_iff_toInt_lt, Int64.le_iff_toInt_le, ← Int64.toInt_inj, Int64.reduceToInt, Int32.toInt_toInt64, lg_cmp_ge, lg_cmp_le, lg_cmp_gt, lg_cmp_lt, lg_cmp_eq, Bool.false_eq_true, Bool.true_eq_false, reduceCtorEq, false_iff, true_iff, iff_true, iff_false, and_true, true_and, and_false, false_and, reduceIte, ite_true, ite_false, eq_self] at *)) <;> omega), trivial⟩ rfl
            · have mh11 := nle_mx h11
              refine wa_aload_n (i := 0) rfl rfl ?_
              refine wa_getr ck_9 fl_9_22 ly_60 rf_60_3 ?_
              refine wa_iload_n (i := 2) rfl rfl ?_
              refine wa_iconst (v := 4) (by decide) ?_
              refine wa_imul ?_
              refine wa_top (fun v13 hv13 => ?_)
              have tv13 := i_mulT hv13
              clear hv13
              refine wa_iload_n (i := 1) rfl rfl ?_
              refine wa_iadd ?_
              refine wa_top (fun v14 hv14 => ?_)
              have tv14 := i_addT hv14
              clear hv14
              refine wa_lald ly_64 (by ((try simp only [vp_in_iff, Int32.lt_iff_toInt_lt, Int32.le_iff_toInt_le, ← Int32.toInt_inj, Int32.reduceToInt, n_1, n_2, n_8, Int32.toNatClampNeg, Int64.lt_iff_toInt_lt, Int64.le_iff_toInt_le, ← Int64.toInt_inj, Int64.reduceToInt, Int32.toInt_toInt64, lg_cmp_ge, lg_cmp_le, lg_cmp_gt, lg_cmp_lt, lg_cmp_eq, Bool.false_eq_true, Bool.true_eq_false, reduceCtorEq, false_iff, true_iff, iff_true, iff_false, and_true, true_and, and_false, false_and, reduceIte, ite_true, ite_false, eq_self] at *)) <;> omega) ?_
              refine wa_lstore_nD (lv' := [(3, .long (gl s8 64 (v14).toNatClampNeg)), (0, .ref 60), (1, .int l1), (2, .int l2)]) (i := 3) rfl (by decide) rfl ?_
              refine wa_aload_n (i := 0) rfl rfl ?_
              refine wa_getr ck_9 fl_9_18 ly_60 rf_60_2 ?_
              refine wa_iload_n (i := 2) rfl rfl ?_
              refine wa_iald ly_63 (by ((try simp only [vp_in_iff, Int32.lt_iff_toInt_lt, Int32.le_iff_toInt_le, ← Int32.toInt_inj, Int32.reduceToInt, n_1, n_2, n_8, Int32.toNatClampNeg, Int64.lt_iff_toInt_lt, Int64.le_iff_toInt_le, ← Int64.toInt_inj, Int64.reduceToInt, Int32.toInt_toInt64, lg_cmp_ge, lg_cmp_le, lg_cmp_gt, lg_cmp_lt, lg_cmp_eq, Bool.false_eq_true, Bool.true_eq_false, reduceCtorEq, false_iff, true_iff, iff_true, iff_false, and_true, true_and, and_false, false_and, reduceIte, ite_true, ite_false, eq_self] at *)) <;> omega) ?_
              refine wa_iconst (v := (-1)) (by decide) ?_
              refine wa_icmp_ne o_X9_locate_73 (by decide) (fun h15 => ?_) (fun h15 => ?_)
              · refine wa_aload_n (i := 0) rfl rfl ?_
                refine wa_getr ck_9 fl_9_28 ly_60 rf_60_5 ?_
                refine wa_iload_n (i := 1) rfl rfl ?_
                refine wa_dup2 rfl rfl ?_
                refine wa_lald ly_66 (by ((try simp only [vp_in_iff, Int32.lt_iff_toInt_lt, Int32.le_iff_toInt_le, ← Int32.toInt_inj, Int32.reduceToInt, n_1, n_2, n_8, Int32.toNatClampNeg, Int64.lt_iff_toInt_lt, Int64.le_iff_toInt_le, ← Int64.toInt_inj, Int64.reduceToInt, Int32.toInt_toInt64, lg_cmp_ge, lg_cmp_le, lg_cmp_gt, lg_cmp_lt, lg_cmp_eq, Bool.false_eq_true, Bool.true_eq_false, reduceCtorEq, false_iff, true_iff, iff_true, iff_false, and_true, true_and, and_false, false_and, reduceIte, ite_true, ite_false, eq_self] at *)) <;> omega) ?_
                refine wa_lload_n (i := 3) rfl rfl ?_
                refine wa_aload_n (i := 0) rfl rfl ?_
                refine wa_aload_n (i := 0) rfl rfl ?_
                refine wa_getr ck_9 fl_9_18 ly_60 rf_60_2 ?_
                refine wa_iload_n (i := 2) rfl rfl ?_
                refine wa_iald ly_63 (by ((try simp only [vp_in_iff, Int32.lt_iff_toInt_lt, Int32.le_iff_toInt_le, ← Int32.toInt_inj, Int32.reduceToInt, n_1, n_2, n_8, Int32.toNatClampNeg, Int64.lt_iff_toInt_lt, Int64.le_iff_toInt_le, ← Int64.toInt_inj, Int64.reduceToInt, Int32.toInt_toInt64, lg_cmp_ge, lg_cmp_le, lg_cmp_gt, lg_cmp_lt, lg_cmp_eq, Bool.false_eq_true, Bool.true_eq_false, reduceCtorEq, false_iff, true_iff, iff_true, iff_false, and_true, true_and, and_false, false_and, reduceIte, ite_true, ite_false, eq_self] at *)) <;> omega) ?_
                refine wa_iconst (v := 4) (by decide) ?_
                refine wa_Vl (d9 := d - 1) [.int _, .int _] [.long (gl s8 64 (v14).toNatClampNeg), .long (gl s8 66 (l1).toNatClampNeg), .int l1, .ref 66] (sp_X9_rowNumber G (d := d - 1) (by omega) s8 _ _) (rfl) rfl rfl (zr (by omega)) mk_X9_rowNumber ly_60 ml_9_99 (Nat.le_of_ble_eq_true rfl) (fun x17 s16 hs16 => ?_)
                obtain ⟨zs16, -⟩ := pL hs16
                subst zs16
                refine wa_lmul ?_
                refine wa_topl (fun v18 hv18 => ?_)
                clear hv18
                refine wa_ladd ?_
                refine wa_topl (fun v19 hv19 => ?_)
                clear hv19
                refine wa_last ly_66 (by ((try simp only [vp_in_iff, Int32.lt_iff_toInt_lt, Int32.le_iff_toInt_le, ← Int32.toInt_inj, Int32.reduceToInt, n_1, n_2, n_8, Int32.toNatClampNeg, Int64.lt_iff_toInt_lt, Int64.le_iff_toInt_le, ← Int64.toInt_inj, Int64.reduceToInt, Int32.toInt_toInt64, lg_cmp_ge, lg_cmp_le, lg_cmp_gt, lg_cmp_lt, lg_cmp_eq, Bool.false_eq_true, Bool.true_eq_false, reduceCtorEq, false_iff, true_iff, iff_true, iff_false, and_true, true_and, and_false, false_and, reduceIte, ite_true, ite_false, eq_self] at *)) <;> omega) (fun s20 hs20 => ?_)
                have Fs20 : Sm 60 68 σ s20 := by rw [hs20]; exact Sm.sl Fs8 _ _ (by decide) (by decide)
                refine wa_iinc (v := (1)) (lv' := fun y21 => [(2, .int y21), (3, .long (gl s8 64 (v14).toNatClampNeg)), (0, .ref 60), (1, .int l1)]) (by decide) rfl (by decide) (fun _ => rfl) (fun y21 hy21 => ?_)
                have ty21 := i_addT hy21.symm
                clear hy21
                refine wa_goto o_X9_locate_31 (by decide) ?_
                refine wa_pick [2, 3, 0] rfl ?_
                exact ih9 _ (by ((try simp only [vp_in_iff, Int32.lt_iff_toInt_lt, Int32.le_iff_toInt_le, ← Int32.toInt_inj, Int32.reduceToInt, n_1, n_2, n_8, Int32.toNatClampNeg, Int64.lt_iff_toInt_lt, Int64.le_iff_toInt_le, ← Int64.toInt_inj, Int64.reduceToInt, Int32.toInt_toInt64, lg_cmp_ge, lg_cmp_le, lg_cmp_gt, lg_cmp_lt, lg_cmp_eq, Bool.false_eq_true, Bool.true_eq_false, reduceCtorEq, false_iff, true_iff, iff_true, iff_false, and_true, true_and, and_false, false_and, reduceIte, ite_true, ite_false, eq_self] at *)) <;> omega) _ _ ⟨Fs20, ((nxq_gl_sl hs20 (by decide)).trans (khi10_0)), ((nx_gi_sl hs20).trans (khi10_1)), (by ((try simp only [vp_in_iff, Int32.lt_iff_toInt_lt, Int32.le_iff_toInt_le, ← Int32.toInt_inj, Int32.reduceToInt, n_1, n_2, n_8, Int32.toNatClampNeg, Int64.lt_iff_toInt_lt, Int64.le_iff_toInt_le, ← Int64.toInt_inj, Int64.reduceToInt, Int32.toInt_toInt64, lg_cmp_ge, lg_cmp_le, lg_cmp_gt, lg_cmp_lt, lg_cmp_eq, Bool.false_eq_true, Bool.true_eq_false, reduceCtorEq, false_iff, true_iff, iff_true, iff_false, and_true, true_and, and_false, false_and, reduceIte, ite_true, ite_false, eq_self] at *)) <;> omega), trivial⟩ rfl
              · refine wa_aload_n (i := 0) rfl rfl ?_
                refine wa_getr ck_9 fl_9_31 ly_60 rf_60_6 ?_
                refine wa_iload_n (i := 1) rfl rfl ?_
                refine wa_dup2 rfl rfl ?_
                refine wa_lald ly_67 (by ((try simp only [vp_in_iff, Int32.lt_iff_toInt_lt, Int32.le_iff_toInt_le, ← Int32.toInt_inj, Int32.reduceToInt, n_1, n_2, n_8, Int32.toNatClampNeg, Int64.lt_iff_toInt_lt, Int64.le_iff_toInt_le, ← Int64.toInt_inj, Int64.reduceToInt, Int32.toInt_toInt64, lg_cmp_ge, lg_cmp_le, lg_cmp_gt, lg_cmp_lt, lg_cmp_eq, Bool.false_eq_true, Bool.true_eq_false, reduceCtorEq, false_iff, true_iff, iff_true, iff_false, and_true, true_and, and_false, false_and, reduceIte, ite_true, ite_false, eq_self] at *)) <;> omega) ?_
                refine wa_lload_n (i := 3) rfl rfl ?_
                refine wa_ladd ?_
                refine wa_topl (fun v22 hv22 => ?_)
                clear hv22
                refine wa_last ly_67 (by ((try simp only [vp_in_iff, Int32.lt_iff_toInt_lt, Int32.le_iff_toInt_le, ← Int32.toInt_inj, Int32.reduceToInt, n_1, n_2, n_8, Int32.toNatClampNeg, Int64.lt_iff_toInt_lt, Int64.le_iff_toInt_le, ← Int64.toInt_inj, Int64.reduceToInt, Int32.toInt_toInt64, lg_cmp_ge, lg_cmp_le, lg_cmp_gt, lg_cmp_lt, lg_cmp_eq, Bool.false_eq_true, Bool.true_eq_false, reduceCtorEq, false_iff, true_iff, iff_true, iff_false, and_true, true_and, and_false, false_and, reduceIte, ite_true, ite_false, eq_self] at *)) <;> omega) (fun s23 hs23 => ?_)
                have Fs23 : Sm 60 68 σ s23 := by rw [hs23]; exact Sm.sl Fs8 _ _ (by decide) (by decide)
                refine wa_goto o_X9_locate_95 (by decide) ?_
                refine wa_iinc (v := (1)) (lv' := fun y24 => [(2, .int y24), (3, .long (gl s8 64 (v14).toNatClampNeg)), (0, .ref 60), (1, .int l1)]) (by decide) rfl (by decide) (fun _ => rfl) (fun y24 hy24 => ?_)
                have ty24 := i_addT hy24.symm
                clear hy24
                refine wa_goto o_X9_locate_31 (by decide) ?_
                refine wa_pick [2, 3, 0] rfl ?_
                exact ih9 _ (by ((try simp only [vp_in_iff, Int32.lt_iff_toInt_lt, Int32.le_iff_toInt_le, ← Int32.toInt_inj, Int32.reduceToInt, n_1, n_2, n_8, Int32.toNatClampNeg, Int64.lt_iff_toInt_lt, Int64.le_iff_toInt_le, ← Int64.toInt_inj, Int64.reduceToInt, Int32.toInt_toInt64, lg_cmp_ge, lg_cmp_le, lg_cmp_gt, lg_cmp_lt, lg_cmp_eq, Bool.false_eq_true, Bool.true_eq_false, reduceCtorEq, false_iff, true_iff, iff_true, iff_false, and_true, true_and, and_false, false_and, reduceIte, ite_true, ite_false, eq_self] at *)) <;> omega) _ _ ⟨Fs23, ((nxq_gl_sl hs23 (by decide)).trans (khi10_0)), ((nx_gi_sl hs23).trans (khi10_1)), (by ((try simp only [vp_in_iff, Int32.lt_iff_toInt_lt, Int32.le_iff_toInt_le, ← Int32.toInt_inj, Int32.reduceToInt, n_1, n_2, n_8, Int32.toNatClampNeg, Int64.lt_iff_toInt_lt, Int64.le_iff_toInt_le, ← Int64.toInt_inj, Int64.reduceToInt, Int32.toInt_toInt64, lg_cmp_ge, lg_cmp_le, lg_cmp_gt, lg_cmp_lt, lg_cmp_eq, Bool.false_eq_true, Bool.true_eq_false, reduceCtorEq, false_iff, true_iff, iff_true, iff_false, and_true, true_and, and_false, false_and, reduceIte, ite_true, ite_false, eq_self] at *)) <;> omega), trivial⟩ rfl
        exact hi10 _ _ _ ⟨Fs7, ((nxq_gl_sl hs7 (by decide)).trans ((nxq_gl_sl hs6 (by decide)).trans (khi4_0))), ((nx_gi_sl hs7).trans ((nx_gi_sl hs6).trans (khi4_1))), (by ((try simp only [vp_in_iff, Int32.lt_iff_toInt_lt, Int32.le_iff_toInt_le, ← Int32.toInt_inj, Int32.reduceToInt, n_1, n_2, n_8, Int32.toNatClampNeg, Int64.lt_iff_toInt_lt, Int64.le_iff_toInt_le, ← Int64.toInt_inj, Int64.reduceToInt, Int32.toInt_toInt64, lg_cmp_ge, lg_cmp_le, lg_cmp_gt, lg_cmp_lt, lg_cmp_eq, Bool.false_eq_true, Bool.true_eq_false, reduceCtorEq, false_iff, true_iff, iff_true, iff_false, and_true, true_and, and_false, false_and, reduceIte, ite_true, ite_false, eq_self] at *)) <;> omega), trivial⟩ rfl
  exact hi4 _ _ _ ⟨Fs1, (nxk_gl_sl hs1 (by decide)), (nx_gi_sl hs1), (by ((try simp only [vp_in_iff, Int32.lt_iff_toInt_lt, Int32.le_iff_toInt_le, ← Int32.toInt_inj, Int32.reduceToInt, n_1, n_2, n_8, Int32.toNatClampNeg, Int64.lt_iff_toInt_lt, Int64.le_iff_toInt_le, ← Int64.toInt_inj, Int64.reduceToInt, Int32.toInt_toInt64, lg_cmp_ge, lg_cmp_le, lg_cmp_gt, lg_cmp_lt, lg_cmp_eq, Bool.false_eq_true, Bool.true_eq_false, reduceCtorEq, false_iff, true_iff, iff_true, iff_false, and_true, true_and, and_false, false_and, reduceIte, ite_true, ite_false, eq_self] at *)) <;> omega), trivial⟩ rfl
