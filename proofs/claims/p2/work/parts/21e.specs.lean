set_option maxHeartbeats 4000000 in
theorem sp_X4_pushForm (G : kG9) {d : Nat} (hd : 1 ≤ d) (σ : St) (a0 : Int32) (a1 : Int32) (a2 : Int32) : Ct G M_X4_pushForm d [.ref 25, .int a0, .int a1, .int a2] σ (fun r σ' => Fm [26, 27] [] σ σ' ∧ True) := by
  refine wa_start (by decide) rfl (Nat.le_of_ble_eq_true rfl) (lv := [(0, .ref 25), (1, .int a0), (2, .int a1), (3, .int a2)]) rfl o_X4_pushForm_0 rfl ?_
  have ua0 := Int32.toInt_lt a0
  have wa0 := Int32.le_toInt a0
  have ua1 := Int32.toInt_lt a1
  have wa1 := Int32.le_toInt a1
  have ua2 := Int32.toInt_lt a2
  have wa2 := Int32.le_toInt a2
  refine wa_iload_n (i := 1) rfl rfl ?_
  refine wa_aload_n (i := 0) rfl rfl ?_
  refine wa_iload_n (i := 1) rfl rfl ?_
  refine wa_Vi (d9 := d - 1) [.int _] [.int a0] (sp_X4_top G (d := d - 1) (by omega) σ _) (rfl) rfl rfl (zr (by omega)) mk_X4_top ly_25 ml_4_137 (Nat.le_of_ble_eq_true rfl) (fun x2 s1 hs1 => ?_)
  obtain ⟨zs1, -⟩ := pI hs1
  subst zs1
  refine wa_Si (d9 := d - 1) [.int _, .int _] [] (sp_X4_form G (d := d - 1) (by omega) σ _ _) (rfl) rfl rfl (zr (by omega)) mk_X4_form ml_4_95 (Nat.le_of_ble_eq_true rfl) (fun x4 s3 hs3 => ?_)
  obtain ⟨zs3, cx4_1, -⟩ := pI hs3
  subst zs3
  refine wa_istoreD (lv' := [(4, .int x4), (0, .ref 25), (1, .int a0), (2, .int a1), (3, .int a2)]) (by decide) rfl ?_
  refine wa_iconst (v := 0) (by decide) ?_
  refine wa_istoreD (lv' := [(5, .int 0), (4, .int x4), (0, .ref 25), (1, .int a0), (2, .int a1), (3, .int a2)]) (by decide) rfl ?_
  refine wa_pick [2, 3, 4, 5, 1, 0] rfl ?_
  have hi7 : ∀ (n9_14 : Nat) (l5 : Int32) (s5 : St), ((Fm [26, 27] [] σ s5) ∧ (0 ≤ l5.toInt) ∧ (True)) → (2147483647 - l5.toInt).toNat = n9_14 → WA G M_X4_pushForm (ZM G M_X4_pushForm d (fun r σ' => Fm [26, 27] [] σ σ' ∧ True)) B_X4_pushForm_14 [(0, .ref 25), (1, .int a0), (2, .int a1), (3, .int a2), (4, .int x4), (5, .int l5)] [] s5 := by
    intro n9_14
    induction n9_14 using Nat.strongRecOn with
    | _ n9_14 ih6 =>
      intro l5 s5 i9 m9_14
      obtain ⟨Fs5, jhi7_0, -⟩ := i9
      have ul5 := Int32.toInt_lt l5
      have wl5 := Int32.le_toInt l5
      refine wa_iload rfl ?_
      refine wa_bipush (v := 6) (by decide) ?_
      refine wa_icmp_ge o_X4_pushForm_69 (by decide) (fun h8 => ?_) (fun h8 => ?_)
      · refine wa_aload_n (i := 0) rfl rfl ?_
        refine wa_iload_n (i := 1) rfl rfl ?_
        refine wa_aload_n (i := 0) rfl rfl ?_
        refine wa_iload_n (i := 1) rfl rfl ?_
        refine wa_Vi (d9 := d - 1) [.int _] [.int a0, .ref 25] (sp_X4_top G (d := d - 1) (by omega) s5 _) (rfl) rfl rfl (zr (by omega)) mk_X4_top ly_25 ml_4_137 (Nat.le_of_ble_eq_true rfl) (fun x10 s9 hs9 => ?_)
        obtain ⟨zs9, -⟩ := pI hs9
        subst zs9
        refine wa_iconst (v := 1) (by decide) ?_
        refine wa_iadd ?_
        refine wa_top (fun v11 hv11 => ?_)
        have tv11 := i_addT hv11
        clear hv11
        refine wa_Vv (d9 := d - 1) [.int _, .int _] [] (sp_X4_setTop G (d := d - 1) (by omega) s5 _ _) (rfl) rfl rfl (zr (by omega)) mk_X4_setTop ly_25 ml_4_160 (Nat.le_of_ble_eq_true rfl) (fun s12 hs12 => ?_)
        obtain ⟨fs12, -⟩ := hs12
        have Fs12 : Fm [26, 27] [] σ s12 := Fm.tr Fs5 (Fm.wd fs12 rfl rfl)
        refine wa_return (st := []) rfl rfl ?_
        exact ⟨Fs12, trivial⟩
      · have mh8 := nle_mx h8
        refine wa_aload_n (i := 0) rfl rfl ?_
        refine wa_getr ck_4 fl_4_11 ly_25 rf_25_1 ?_
        refine wa_iload rfl ?_
        refine wa_iload rfl ?_
        refine wa_iadd ?_
        refine wa_top (fun v14 hv14 => ?_)
        have tv14 := i_addT hv14
        clear hv14
        refine wa_iload rfl ?_
        refine wa_iload_n (i := 2) rfl rfl ?_
        refine wa_icmp_ne o_X4_pushForm_40 (by decide) (fun h15 => ?_) (fun h15 => ?_)
        · refine wa_iload rfl ?_
          refine wa_iconst (v := 4) (by decide) ?_
          refine wa_icmp_ne o_X4_pushForm_51 (by decide) (fun h16 => ?_) (fun h16 => ?_)
          · refine wa_iload rfl ?_
            refine wa_iconst (v := 5) (by decide) ?_
            refine wa_icmp_ne o_X4_pushForm_61 (by decide) (fun h17 => ?_) (fun h17 => ?_)
            · refine wa_lconst (v := 0) (by decide) ?_
              refine wa_last ly_26 (by ((try simp only [vp_in_iff, Int32.lt_iff_toInt_lt, Int32.le_iff_toInt_le, ← Int32.toInt_inj, Int32.reduceToInt, n_1, n_2, n_8, Int32.toNatClampNeg, Int64.lt_iff_toInt_lt, Int64.le_iff_toInt_le, ← Int64.toInt_inj, Int64.reduceToInt, Int32.toInt_toInt64, lg_cmp_ge, lg_cmp_le, lg_cmp_gt, lg_cmp_lt, lg_cmp_eq, Bool.false_eq_true, Bool.true_eq_false, reduceCtorEq, false_iff, true_iff, iff_true, iff_false, and_true, true_and, and_false, false_and, reduceIte, ite_true, ite_false, eq_self] at *)) <;> omega) (fun s18 hs18 => ?_)
              have Fs18 : Fm [26, 27] [] σ s18 := by rw [hs18]; exact Fm.sl Fs5 rfl
              refine wa_iinc (v := (1)) (lv' := fun y19 => [(5, .int y19), (0, .ref 25), (1, .int a0), (2, .int a1), (3, .int a2), (4, .int x4)]) (by decide) rfl (by decide) (fun _ => rfl) (fun y19 hy19 => ?_)
              have ty19 := i_addT hy19.symm
              clear hy19
              refine wa_goto o_X4_pushForm_14 (by decide) ?_
              refine wa_pick [1, 2, 3, 4, 5, 0] rfl ?_
              exact ih6 _ (by ((try simp only [vp_in_iff, Int32.lt_iff_toInt_lt, Int32.le_iff_toInt_le, ← Int32.toInt_inj, Int32.reduceToInt, n_1, n_2, n_8, Int32.toNatClampNeg, Int64.lt_iff_toInt_lt, Int64.le_iff_toInt_le, ← Int64.toInt_inj, Int64.reduceToInt, Int32.toInt_toInt64, lg_cmp_ge, lg_cmp_le, lg_cmp_gt, lg_cmp_lt, lg_cmp_eq, Bool.false_eq_true, Bool.true_eq_false, reduceCtorEq, false_iff, true_iff, iff_true, iff_false, and_true, true_and, and_false, false_and, reduceIte, ite_true, ite_false, eq_self] at *)) <;> omega) _ _ ⟨Fs18, (by ((try simp only [vp_in_iff, Int32.lt_iff_toInt_lt, Int32.le_iff_toInt_le, ← Int32.toInt_inj, Int32.reduceToInt, n_1, n_2, n_8, Int32.toNatClampNeg, Int64.lt_iff_toInt_lt, Int64.le_iff_toInt_le, ← Int64.toInt_inj, Int64.reduceToInt, Int32.toInt_toInt64, lg_cmp_ge, lg_cmp_le, lg_cmp_gt, lg_cmp_lt, lg_cmp_eq, Bool.false_eq_true, Bool.true_eq_false, reduceCtorEq, false_iff, true_iff, iff_true, iff_false, and_true, true_and, and_false, false_and, reduceIte, ite_true, ite_false, eq_self] at *)) <;> omega), trivial⟩ rfl
            · refine wa_lconst (v := 1) (by decide) ?_
              refine wa_goto o_X4_pushForm_62 (by decide) ?_
              refine wa_last ly_26 (by ((try simp only [vp_in_iff, Int32.lt_iff_toInt_lt, Int32.le_iff_toInt_le, ← Int32.toInt_inj, Int32.reduceToInt, n_1, n_2, n_8, Int32.toNatClampNeg, Int64.lt_iff_toInt_lt, Int64.le_iff_toInt_le, ← Int64.toInt_inj, Int64.reduceToInt, Int32.toInt_toInt64, lg_cmp_ge, lg_cmp_le, lg_cmp_gt, lg_cmp_lt, lg_cmp_eq, Bool.false_eq_true, Bool.true_eq_false, reduceCtorEq, false_iff, true_iff, iff_true, iff_false, and_true, true_and, and_false, false_and, reduceIte, ite_true, ite_false, eq_self] at *)) <;> omega) (fun s20 hs20 => ?_)
              have Fs20 : Fm [26, 27] [] σ s20 := by rw [hs20]; exact Fm.sl Fs5 rfl
              refine wa_iinc (v := (1)) (lv' := fun y21 => [(5, .int y21), (0, .ref 25), (1, .int a0), (2, .int a1), (3, .int a2), (4, .int x4)]) (by decide) rfl (by decide) (fun _ => rfl) (fun y21 hy21 => ?_)
              have ty21 := i_addT hy21.symm
              clear hy21
              refine wa_goto o_X4_pushForm_14 (by decide) ?_
              refine wa_pick [1, 2, 3, 4, 5, 0] rfl ?_
              exact ih6 _ (by ((try simp only [vp_in_iff, Int32.lt_iff_toInt_lt, Int32.le_iff_toInt_le, ← Int32.toInt_inj, Int32.reduceToInt, n_1, n_2, n_8, Int32.toNatClampNeg, Int64.lt_iff_toInt_lt, Int64.le_iff_toInt_le, ← Int64.toInt_inj, Int64.reduceToInt, Int32.toInt_toInt64, lg_cmp_ge, lg_cmp_le, lg_cmp_gt, lg_cmp_lt, lg_cmp_eq, Bool.false_eq_true, Bool.true_eq_false, reduceCtorEq, false_iff, true_iff, iff_true, iff_false, and_true, true_and, and_false, false_and, reduceIte, ite_true, ite_false, eq_self] at *)) <;> omega) _ _ ⟨Fs20, (by ((try simp only [vp_in_iff, Int32.lt_iff_toInt_lt, Int32.le_iff_toInt_le, ← Int32.toInt_inj, Int32.reduceToInt, n_1, n_2, n_8, Int32.toNatClampNeg, Int64.lt_iff_toInt_lt, Int64.le_iff_toInt_le, ← Int64.toInt_inj, Int64.reduceToInt, Int32.toInt_toInt64, lg_cmp_ge, lg_cmp_le, lg_cmp_gt, lg_cmp_lt, lg_cmp_eq, Bool.false_eq_true, Bool.true_eq_false, reduceCtorEq, false_iff, true_iff, iff_true, iff_false, and_true, true_and, and_false, false_and, reduceIte, ite_true, ite_false, eq_self] at *)) <;> omega), trivial⟩ rfl
          · refine wa_iload_n (i := 3) rfl rfl ?_
            refine wa_i2l ?_
            refine wa_goto o_X4_pushForm_62 (by decide) ?_
            refine wa_last ly_26 (by ((try simp only [vp_in_iff, Int32.lt_iff_toInt_lt, Int32.le_iff_toInt_le, ← Int32.toInt_inj, Int32.reduceToInt, n_1, n_2, n_8, Int32.toNatClampNeg, Int64.lt_iff_toInt_lt, Int64.le_iff_toInt_le, ← Int64.toInt_inj, Int64.reduceToInt, Int32.toInt_toInt64, lg_cmp_ge, lg_cmp_le, lg_cmp_gt, lg_cmp_lt, lg_cmp_eq, Bool.false_eq_true, Bool.true_eq_false, reduceCtorEq, false_iff, true_iff, iff_true, iff_false, and_true, true_and, and_false, false_and, reduceIte, ite_true, ite_false, eq_self] at *)) <;> omega) (fun s22 hs22 => ?_)
            have Fs22 : Fm [26, 27] [] σ s22 := by rw [hs22]; exact Fm.sl Fs5 rfl
            refine wa_iinc (v := (1)) (lv' := fun y23 => [(5, .int y23), (0, .ref 25), (1, .int a0), (2, .int a1), (3, .int a2), (4, .int x4)]) (by decide) rfl (by decide) (fun _ => rfl) (fun y23 hy23 => ?_)
            have ty23 := i_addT hy23.symm
            clear hy23
            refine wa_goto o_X4_pushForm_14 (by decide) ?_
            refine wa_pick [1, 2, 3, 4, 5, 0] rfl ?_
            exact ih6 _ (by ((try simp only [vp_in_iff, Int32.lt_iff_toInt_lt, Int32.le_iff_toInt_le, ← Int32.toInt_inj, Int32.reduceToInt, n_1, n_2, n_8, Int32.toNatClampNeg, Int64.lt_iff_toInt_lt, Int64.le_iff_toInt_le, ← Int64.toInt_inj, Int64.reduceToInt, Int32.toInt_toInt64, lg_cmp_ge, lg_cmp_le, lg_cmp_gt, lg_cmp_lt, lg_cmp_eq, Bool.false_eq_true, Bool.true_eq_false, reduceCtorEq, false_iff, true_iff, iff_true, iff_false, and_true, true_and, and_false, false_and, reduceIte, ite_true, ite_false, eq_self] at *)) <;> omega) _ _ ⟨Fs22, (by ((try simp only [vp_in_iff, Int32.lt_iff_toInt_lt, Int32.le_iff_toInt_le, ← Int32.toInt_inj, Int32.reduceToInt, n_1, n_2, n_8, Int32.toNatClampNeg, Int64.lt_iff_toInt_lt, Int64.le_iff_toInt_le, ← Int64.toInt_inj, Int64.reduceToInt, Int32.toInt_toInt64, lg_cmp_ge, lg_cmp_le, lg_cmp_gt, lg_cmp_lt, lg_cmp_eq, Bool.false_eq_true, Bool.true_eq_false, reduceCtorEq, false_iff, true_iff, iff_true, iff_false, and_true, true_and, and_false, false_and, reduceIte, ite_true, ite_false, eq_self] at *)) <;> omega), trivial⟩ rfl
        · refine wa_lconst (v := 1) (by decide) ?_
          refine wa_goto o_X4_pushForm_62 (by decide) ?_
          refine wa_last ly_26 (by ((try simp only [vp_in_iff, Int32.lt_iff_toInt_lt, Int32.le_iff_toInt_le, ← Int32.toInt_inj, Int32.reduceToInt, n_1, n_2, n_8, Int32.toNatClampNeg, Int64.lt_iff_toInt_lt, Int64.le_iff_toInt_le, ← Int64.toInt_inj, Int64.reduceToInt, Int32.toInt_toInt64, lg_cmp_ge, lg_cmp_le, lg_cmp_gt, lg_cmp_lt, lg_cmp_eq, Bool.false_eq_true, Bool.true_eq_false, reduceCtorEq, false_iff, true_iff, iff_true, iff_false, and_true, true_and, and_false, false_and, reduceIte, ite_true, ite_false, eq_self] at *)) <;> omega) (fun s24 hs24 => ?_)
          have Fs24 : Fm [26, 27] [] σ s24 := by rw [hs24]; exact Fm.sl Fs5 rfl
          refine wa_iinc (v := (1)) (lv' := fun y25 => [(5, .int y25), (0, .ref 25), (1, .int a0), (2, .int a1), (3, .int a2), (4, .int x4)]) (by decide) rfl (by decide) (fun _ => rfl) (fun y25 hy25 => ?_)
          have ty25 := i_addT hy25.symm
          clear hy25
          refine wa_goto o_X4_pushForm_14 (by decide) ?_
          refine wa_pick [1, 2, 3, 4, 5, 0] rfl ?_
          exact ih6 _ (by ((try simp only [vp_in_iff, Int32.lt_iff_toInt_lt, Int32.le_iff_toInt_le, ← Int32.toInt_inj, Int32.reduceToInt, n_1, n_2, n_8, Int32.toNatClampNeg, Int64.lt_iff_toInt_lt, Int64.le_iff_toInt_le, ← Int64.toInt_inj, Int64.reduceToInt, Int32.toInt_toInt64, lg_cmp_ge, lg_cmp_le, lg_cmp_gt, lg_cmp_lt, lg_cmp_eq, Bool.false_eq_true, Bool.true_eq_false, reduceCtorEq, false_iff, true_iff, iff_true, iff_false, and_true, true_and, and_false, false_and, reduceIte, ite_true, ite_false, eq_self] at *)) <;> omega) _ _ ⟨Fs24, (by ((try simp only [vp_in_iff, Int32.lt_iff_toInt_lt, Int32.le_iff_toInt_le, ← Int32.toInt_inj, Int32.reduceToInt, n_1, n_2, n_8, Int32.toNatClampNeg, Int64.lt_iff_toInt_lt, Int64.le_iff_toInt_le, ← Int64.toInt_inj, Int64.reduceToInt, Int32.toInt_toInt64, lg_cmp_ge, lg_cmp_le, lg_cmp_gt, lg_cmp_lt, lg_cmp_eq, Bool.false_eq_true, Bool.true_eq_false, reduceCtorEq, false_iff, true_iff, iff_true, iff_false, and_true, true_and, and_false, false_and, reduceIte, ite_true, ite_false, eq_self] at *)) <;> omega), trivial⟩ rfl
  exact hi7 _ _ _ ⟨(Fm.rf [26, 27] [] σ), (by ((try simp only [vp_in_iff, Int32.lt_iff_toInt_lt, Int32.le_iff_toInt_le, ← Int32.toInt_inj, Int32.reduceToInt, n_1, n_2, n_8, Int32.toNatClampNeg, Int64.lt_iff_toInt_lt, Int64.le_iff_toInt_le, ← Int64.toInt_inj, Int64.reduceToInt, Int32.toInt_toInt64, lg_cmp_ge, lg_cmp_le, lg_cmp_gt, lg_cmp_lt, lg_cmp_eq, Bool.false_eq_true, Bool.true_eq_false, reduceCtorEq, false_iff, true_iff, iff_true, iff_false, and_true, true_and, and_false, false_and, reduceIte, ite_true, ite_false, eq_self] at *)) <;> omega), trivial⟩ rfl
set_option maxHeartbeats 4000000 in
theorem sp_X4_splitRest (G : kG9) {d : Nat} (hd : 2 ≤ d) (σ : St) (a0 : Int32) (a1 : Bool) (a2 : Int32) (a3 : Int32) : Ct G M_X4_splitRest d [.ref 25, .int a0, .int (bI a1), .int a2, .int a3] σ (fun r σ' => Fm [7, 8, 9, 10, 11, 12, 13, 14, 15, 25, 26, 27, 28] [] σ σ' ∧ True) := by
  refine wa_start (by decide) rfl (Nat.le_of_ble_eq_true rfl) (lv := [(0, .ref 25), (1, .int a0), (2, .int (bI a1)), (3, .int a2), (4, .int a3)]) rfl o_X4_splitRest_0 rfl ?_
  have ua0 := Int32.toInt_lt a0
  have wa0 := Int32.le_toInt a0
  have ua2 := Int32.toInt_lt a2
  have wa2 := Int32.le_toInt a2
  have ua3 := Int32.toInt_lt a3
  have wa3 := Int32.le_toInt a3
  refine wa_aload_n (i := 0) rfl rfl ?_
  refine wa_iload_n (i := 1) rfl rfl ?_
  refine wa_Vi (d9 := d - 1) [.int _] [] (sp_X4_top G (d := d - 1) (by omega) σ _) (rfl) rfl rfl (zr (by omega)) mk_X4_top ly_25 ml_4_137 (Nat.le_of_ble_eq_true rfl) (fun x2 s1 hs1 => ?_)
  obtain ⟨zs1, -⟩ := pI hs1
  subst zs1
  refine wa_iconst (v := 1) (by decide) ?_
  refine wa_isub ?_
  refine wa_top (fun v3 hv3 => ?_)
  have tv3 := i_subT hv3
  clear hv3
  refine wa_istoreD (lv' := [(5, .int v3), (0, .ref 25), (1, .int a0), (2, .int (bI a1)), (3, .int a2), (4, .int a3)]) (by decide) rfl ?_
  refine wa_iload_n (i := 1) rfl rfl ?_
  refine wa_iload rfl ?_
  refine wa_iconst (v := 1) (by decide) ?_
  refine wa_iadd ?_
  refine wa_top (fun v4 hv4 => ?_)
  have tv4 := i_addT hv4
  clear hv4
  refine wa_Si (d9 := d - 1) [.int _, .int _] [] (sp_X4_form G (d := d - 1) (by omega) σ _ _) (rfl) rfl rfl (zr (by omega)) mk_X4_form ml_4_95 (Nat.le_of_ble_eq_true rfl) (fun x6 s5 hs5 => ?_)
  obtain ⟨zs5, cx6_1, -⟩ := pI hs5
  subst zs5
  refine wa_istoreD (lv' := [(6, .int x6), (5, .int v3), (0, .ref 25), (1, .int a0), (2, .int (bI a1)), (3, .int a2), (4, .int a3)]) (by decide) rfl ?_
  refine wa_aload_n (i := 0) rfl rfl ?_
  refine wa_iload_n (i := 1) rfl rfl ?_
  refine wa_iload rfl ?_
  refine wa_Si (d9 := d - 1) [.int _, .int _] [.ref 25] (sp_X4_form G (d := d - 1) (by omega) σ _ _) (rfl) rfl rfl (zr (by omega)) mk_X4_form ml_4_95 (Nat.le_of_ble_eq_true rfl) (fun x8 s7 hs7 => ?_)
  obtain ⟨zs7, cx8_1, -⟩ := pI hs7
  subst zs7
  refine wa_iload rfl ?_
  refine wa_Vv (d9 := d - 1) [.int _, .int _] [] (sp_X4_copyForm G (d := d - 1) (by omega) σ _ _ (by ((try simp only [vp_in_iff, Int32.lt_iff_toInt_lt, Int32.le_iff_toInt_le, ← Int32.toInt_inj, Int32.reduceToInt, n_1, n_2, n_8, Int32.toNatClampNeg, Int64.lt_iff_toInt_lt, Int64.le_iff_toInt_le, ← Int64.toInt_inj, Int64.reduceToInt, Int32.toInt_toInt64, lg_cmp_ge, lg_cmp_le, lg_cmp_gt, lg_cmp_lt, lg_cmp_eq, Bool.false_eq_true, Bool.true_eq_false, reduceCtorEq, false_iff, true_iff, iff_true, iff_false, and_true, true_and, and_false, false_and, reduceIte, ite_true, ite_false, eq_self] at *)) <;> omega) (by ((try simp only [vp_in_iff, Int32.lt_iff_toInt_lt, Int32.le_iff_toInt_le, ← Int32.toInt_inj, Int32.reduceToInt, n_1, n_2, n_8, Int32.toNatClampNeg, Int64.lt_iff_toInt_lt, Int64.le_iff_toInt_le, ← Int64.toInt_inj, Int64.reduceToInt, Int32.toInt_toInt64, lg_cmp_ge, lg_cmp_le, lg_cmp_gt, lg_cmp_lt, lg_cmp_eq, Bool.false_eq_true, Bool.true_eq_false, reduceCtorEq, false_iff, true_iff, iff_true, iff_false, and_true, true_and, and_false, false_and, reduceIte, ite_true, ite_false, eq_self] at *)) <;> omega)) (rfl) rfl rfl (zr (by omega)) mk_X4_copyForm ly_25 ml_4_163 (Nat.le_of_ble_eq_true rfl) (fun s9 hs9 => ?_)
  obtain ⟨fs9, -⟩ := hs9
  have Fs9 : Fm [7, 8, 9, 10, 11, 12, 13, 14, 15, 25, 26, 27, 28] [] σ s9 := Fm.tr (Fm.rf [7, 8, 9, 10, 11, 12, 13, 14, 15, 25, 26, 27, 28] [] σ) (Fm.wd fs9 rfl rfl)
  refine wa_aload_n (i := 0) rfl rfl ?_
  refine wa_getr ck_4 fl_4_11 ly_25 rf_25_1 ?_
  refine wa_iload rfl ?_
  refine wa_iconst (v := 4) (by decide) ?_
  refine wa_iadd ?_
  refine wa_top (fun v11 hv11 => ?_)
  have tv11 := i_addT hv11
  clear hv11
  refine wa_dup2 rfl rfl ?_
  refine wa_lald ly_26 (by ((try simp only [vp_in_iff, Int32.lt_iff_toInt_lt, Int32.le_iff_toInt_le, ← Int32.toInt_inj, Int32.reduceToInt, n_1, n_2, n_8, Int32.toNatClampNeg, Int64.lt_iff_toInt_lt, Int64.le_iff_toInt_le, ← Int64.toInt_inj, Int64.reduceToInt, Int32.toInt_toInt64, lg_cmp_ge, lg_cmp_le, lg_cmp_gt, lg_cmp_lt, lg_cmp_eq, Bool.false_eq_true, Bool.true_eq_false, reduceCtorEq, false_iff, true_iff, iff_true, iff_false, and_true, true_and, and_false, false_and, reduceIte, ite_true, ite_false, eq_self] at *)) <;> omega) ?_
  refine wa_iload rfl ?_
  refine wa_i2l ?_
  refine wa_aload_n (i := 0) rfl rfl ?_
  refine wa_getr ck_4 fl_4_11 ly_25 rf_25_1 ?_
  refine wa_iload rfl ?_
  refine wa_iconst (v := 5) (by decide) ?_
  refine wa_iadd ?_
  refine wa_top (fun v12 hv12 => ?_)
  have tv12 := i_addT hv12
  clear hv12
  refine wa_lald ly_26 (by ((try simp only [vp_in_iff, Int32.lt_iff_toInt_lt, Int32.le_iff_toInt_le, ← Int32.toInt_inj, Int32.reduceToInt, n_1, n_2, n_8, Int32.toNatClampNeg, Int64.lt_iff_toInt_lt, Int64.le_iff_toInt_le, ← Int64.toInt_inj, Int64.reduceToInt, Int32.toInt_toInt64, lg_cmp_ge, lg_cmp_le, lg_cmp_gt, lg_cmp_lt, lg_cmp_eq, Bool.false_eq_true, Bool.true_eq_false, reduceCtorEq, false_iff, true_iff, iff_true, iff_false, and_true, true_and, and_false, false_and, reduceIte, ite_true, ite_false, eq_self] at *)) <;> omega) ?_
  refine wa_lmul ?_
  refine wa_topl (fun v13 hv13 => ?_)
  clear hv13
  refine wa_lsub ?_
  refine wa_topl (fun v14 hv14 => ?_)
  clear hv14
  refine wa_last ly_26 (by ((try simp only [vp_in_iff, Int32.lt_iff_toInt_lt, Int32.le_iff_toInt_le, ← Int32.toInt_inj, Int32.reduceToInt, n_1, n_2, n_8, Int32.toNatClampNeg, Int64.lt_iff_toInt_lt, Int64.le_iff_toInt_le, ← Int64.toInt_inj, Int64.reduceToInt, Int32.toInt_toInt64, lg_cmp_ge, lg_cmp_le, lg_cmp_gt, lg_cmp_lt, lg_cmp_eq, Bool.false_eq_true, Bool.true_eq_false, reduceCtorEq, false_iff, true_iff, iff_true, iff_false, and_true, true_and, and_false, false_and, reduceIte, ite_true, ite_false, eq_self] at *)) <;> omega) (fun s15 hs15 => ?_)
  have Fs15 : Fm [7, 8, 9, 10, 11, 12, 13, 14, 15, 25, 26, 27, 28] [] σ s15 := by rw [hs15]; exact Fm.sl Fs9 rfl
  refine wa_aload_n (i := 0) rfl rfl ?_
  refine wa_iload rfl ?_
  refine wa_Vv (d9 := d - 1) [.int _] [] (sp_X4_check G (d := d - 1) (by omega) s15 _ (by ((try simp only [vp_in_iff, Int32.lt_iff_toInt_lt, Int32.le_iff_toInt_le, ← Int32.toInt_inj, Int32.reduceToInt, n_1, n_2, n_8, Int32.toNatClampNeg, Int64.lt_iff_toInt_lt, Int64.le_iff_toInt_le, ← Int64.toInt_inj, Int64.reduceToInt, Int32.toInt_toInt64, lg_cmp_ge, lg_cmp_le, lg_cmp_gt, lg_cmp_lt, lg_cmp_eq, Bool.false_eq_true, Bool.true_eq_false, reduceCtorEq, false_iff, true_iff, iff_true, iff_false, and_true, true_and, and_false, false_and, reduceIte, ite_true, ite_false, eq_self] at *)) <;> omega)) (rfl) rfl rfl (zr (by omega)) mk_X4_check ly_25 ml_4_157 (Nat.le_of_ble_eq_true rfl) (fun s16 hs16 => ?_)
  obtain ⟨fs16, -⟩ := hs16
  have Fs16 : Fm [7, 8, 9, 10, 11, 12, 13, 14, 15, 25, 26, 27, 28] [] σ s16 := Fm.tr Fs15 (Fm.wd fs16 rfl rfl)
  refine wa_aload_n (i := 0) rfl rfl ?_
  refine wa_aload_n (i := 0) rfl rfl ?_
  refine wa_iload rfl ?_
  refine wa_iload_n (i := 3) rfl rfl ?_
  refine wa_Vi (d9 := d - 1) [.int _, .int _] [.ref 25] (sp_X4_divisorOf G (d := d - 1) (by omega) s16 _ _ (by ((try simp only [vp_in_iff, Int32.lt_iff_toInt_lt, Int32.le_iff_toInt_le, ← Int32.toInt_inj, Int32.reduceToInt, n_1, n_2, n_8, Int32.toNatClampNeg, Int64.lt_iff_toInt_lt, Int64.le_iff_toInt_le, ← Int64.toInt_inj, Int64.reduceToInt, Int32.toInt_toInt64, lg_cmp_ge, lg_cmp_le, lg_cmp_gt, lg_cmp_lt, lg_cmp_eq, Bool.false_eq_true, Bool.true_eq_false, reduceCtorEq, false_iff, true_iff, iff_true, iff_false, and_true, true_and, and_false, false_and, reduceIte, ite_true, ite_false, eq_self] at *)) <;> omega)) (rfl) rfl rfl (zr (by omega)) mk_X4_divisorOf ly_25 ml_4_166 (Nat.le_of_ble_eq_true rfl) (fun x19 s18 hs18 => ?_)
  obtain ⟨fs18, -⟩ := pI hs18
  have Fs18 : Fm [7, 8, 9, 10, 11, 12, 13, 14, 15, 25, 26, 27, 28] [] σ s18 := Fm.tr Fs16 (Fm.wd fs18 rfl rfl)
  refine wa_Vv (d9 := d - 1) [.int _] [] (sp_X4_add G (d := d - 1) (by omega) s18 _) (rfl) rfl rfl (zr (by omega)) mk_X4_add ly_25 ml_4_144 (Nat.le_of_ble_eq_true rfl) (fun s20 hs20 => ?_)
  obtain ⟨fs20, -⟩ := hs20
  have Fs20 : Fm [7, 8, 9, 10, 11, 12, 13, 14, 15, 25, 26, 27, 28] [] σ s20 := Fm.tr Fs18 (Fm.wd fs20 rfl rfl)
  refine wa_aload_n (i := 0) rfl rfl ?_
  refine wa_iload_n (i := 1) rfl rfl ?_
  refine wa_Vv (d9 := d - 1) [.int _] [] (sp_X4_copyLevel G (d := d - 1) (by omega) s20 _) (rfl) rfl rfl (zr (by omega)) mk_X4_copyLevel ly_25 ml_4_147 (Nat.le_of_ble_eq_true rfl) (fun s22 hs22 => ?_)
  obtain ⟨fs22, -⟩ := hs22
  have Fs22 : Fm [7, 8, 9, 10, 11, 12, 13, 14, 15, 25, 26, 27, 28] [] σ s22 := Fm.tr Fs20 (Fm.wd fs22 rfl rfl)
  refine wa_aload_n (i := 0) rfl rfl ?_
  refine wa_iload_n (i := 1) rfl rfl ?_
  refine wa_iconst (v := 1) (by decide) ?_
  refine wa_iadd ?_
  refine wa_top (fun v24 hv24 => ?_)
  have tv24 := i_addT hv24
  clear hv24
  refine wa_iload rfl ?_
  refine wa_Vv (d9 := d - 1) [.int _, .int _] [] (sp_X4_setTop G (d := d - 1) (by omega) s22 _ _) (rfl) rfl rfl (zr (by omega)) mk_X4_setTop ly_25 ml_4_160 (Nat.le_of_ble_eq_true rfl) (fun s25 hs25 => ?_)
  obtain ⟨fs25, -⟩ := hs25
  have Fs25 : Fm [7, 8, 9, 10, 11, 12, 13, 14, 15, 25, 26, 27, 28] [] σ s25 := Fm.tr Fs22 (Fm.wd fs25 rfl rfl)
  refine wa_iload_n (i := 2) rfl rfl ?_
  refine wa_if_eq o_X4_splitRest_133 (by decide) (fun h27 => ?_) (fun h27 => ?_)
  · replace h27 := bI_f (b := a1) (rfl) h27
    refine wa_aload_n (i := 0) rfl rfl ?_
    refine wa_iload_n (i := 1) rfl rfl ?_
    refine wa_iconst (v := 1) (by decide) ?_
    refine wa_iadd ?_
    refine wa_top (fun v28 hv28 => ?_)
    have tv28 := i_addT hv28
    clear hv28
    refine wa_iconst (v := (-1)) (by decide) ?_
    refine wa_iload rfl ?_
    refine wa_Vv (d9 := d - 1) [.int _, .int _, .int _] [] (sp_X4_pushForm G (d := d - 1) (by omega) s25 _ _ _) (rfl) rfl rfl (zr (by omega)) mk_X4_pushForm ly_25 ml_4_169 (Nat.le_of_ble_eq_true rfl) (fun s29 hs29 => ?_)
    obtain ⟨fs29, -⟩ := hs29
    have Fs29 : Fm [7, 8, 9, 10, 11, 12, 13, 14, 15, 25, 26, 27, 28] [] σ s29 := Fm.tr Fs25 (Fm.wd fs29 rfl rfl)
    refine wa_return (st := []) rfl rfl ?_
    exact ⟨Fs29, trivial⟩
  · replace h27 := bI_t (b := a1) (rfl) h27
    refine wa_aload_n (i := 0) rfl rfl ?_
    refine wa_getr ck_4 fl_4_11 ly_25 rf_25_1 ?_
    refine wa_iload rfl ?_
    refine wa_iconst (v := 5) (by decide) ?_
    refine wa_iadd ?_
    refine wa_top (fun v31 hv31 => ?_)
    have tv31 := i_addT hv31
    clear hv31
    refine wa_dup2 rfl rfl ?_
    refine wa_lald ly_26 (by ((try simp only [vp_in_iff, Int32.lt_iff_toInt_lt, Int32.le_iff_toInt_le, ← Int32.toInt_inj, Int32.reduceToInt, n_1, n_2, n_8, Int32.toNatClampNeg, Int64.lt_iff_toInt_lt, Int64.le_iff_toInt_le, ← Int64.toInt_inj, Int64.reduceToInt, Int32.toInt_toInt64, lg_cmp_ge, lg_cmp_le, lg_cmp_gt, lg_cmp_lt, lg_cmp_eq, Bool.false_eq_true, Bool.true_eq_false, reduceCtorEq, false_iff, true_iff, iff_true, iff_false, and_true, true_and, and_false, false_and, reduceIte, ite_true, ite_false, eq_self] at *)) <;> omega) ?_
    refine wa_iload_n (i := 3) rfl rfl ?_
    refine wa_i2l ?_
    refine wa_lmul ?_
    refine wa_topl (fun v32 hv32 => ?_)
    clear hv32
    refine wa_last ly_26 (by ((try simp only [vp_in_iff, Int32.lt_iff_toInt_lt, Int32.le_iff_toInt_le, ← Int32.toInt_inj, Int32.reduceToInt, n_1, n_2, n_8, Int32.toNatClampNeg, Int64.lt_iff_toInt_lt, Int64.le_iff_toInt_le, ← Int64.toInt_inj, Int64.reduceToInt, Int32.toInt_toInt64, lg_cmp_ge, lg_cmp_le, lg_cmp_gt, lg_cmp_lt, lg_cmp_eq, Bool.false_eq_true, Bool.true_eq_false, reduceCtorEq, false_iff, true_iff, iff_true, iff_false, and_true, true_and, and_false, false_and, reduceIte, ite_true, ite_false, eq_self] at *)) <;> omega) (fun s33 hs33 => ?_)
    have Fs33 : Fm [7, 8, 9, 10, 11, 12, 13, 14, 15, 25, 26, 27, 28] [] σ s33 := by rw [hs33]; exact Fm.sl Fs25 rfl
    refine wa_aload_n (i := 0) rfl rfl ?_
    refine wa_iload rfl ?_
    refine wa_iload_n (i := 1) rfl rfl ?_
    refine wa_iconst (v := 1) (by decide) ?_
    refine wa_iadd ?_
    refine wa_top (fun v34 hv34 => ?_)
    have tv34 := i_addT hv34
    clear hv34
    refine wa_iload rfl ?_
    refine wa_Si (d9 := d - 1) [.int _, .int _] [.int x6, .ref 25] (sp_X4_form G (d := d - 1) (by omega) s33 _ _) (rfl) rfl rfl (zr (by omega)) mk_X4_form ml_4_95 (Nat.le_of_ble_eq_true rfl) (fun x36 s35 hs35 => ?_)
    obtain ⟨zs35, cx36_1, -⟩ := pI hs35
    subst zs35
    refine wa_Vv (d9 := d - 1) [.int _, .int _] [] (sp_X4_copyForm G (d := d - 1) (by omega) s33 _ _ (by ((try simp only [vp_in_iff, Int32.lt_iff_toInt_lt, Int32.le_iff_toInt_le, ← Int32.toInt_inj, Int32.reduceToInt, n_1, n_2, n_8, Int32.toNatClampNeg, Int64.lt_iff_toInt_lt, Int64.le_iff_toInt_le, ← Int64.toInt_inj, Int64.reduceToInt, Int32.toInt_toInt64, lg_cmp_ge, lg_cmp_le, lg_cmp_gt, lg_cmp_lt, lg_cmp_eq, Bool.false_eq_true, Bool.true_eq_false, reduceCtorEq, false_iff, true_iff, iff_true, iff_false, and_true, true_and, and_false, false_and, reduceIte, ite_true, ite_false, eq_self] at *)) <;> omega) (by ((try simp only [vp_in_iff, Int32.lt_iff_toInt_lt, Int32.le_iff_toInt_le, ← Int32.toInt_inj, Int32.reduceToInt, n_1, n_2, n_8, Int32.toNatClampNeg, Int64.lt_iff_toInt_lt, Int64.le_iff_toInt_le, ← Int64.toInt_inj, Int64.reduceToInt, Int32.toInt_toInt64, lg_cmp_ge, lg_cmp_le, lg_cmp_gt, lg_cmp_lt, lg_cmp_eq, Bool.false_eq_true, Bool.true_eq_false, reduceCtorEq, false_iff, true_iff, iff_true, iff_false, and_true, true_and, and_false, false_and, reduceIte, ite_true, ite_false, eq_self] at *)) <;> omega)) (rfl) rfl rfl (zr (by omega)) mk_X4_copyForm ly_25 ml_4_163 (Nat.le_of_ble_eq_true rfl) (fun s37 hs37 => ?_)
    obtain ⟨fs37, -⟩ := hs37
    have Fs37 : Fm [7, 8, 9, 10, 11, 12, 13, 14, 15, 25, 26, 27, 28] [] σ s37 := Fm.tr Fs33 (Fm.wd fs37 rfl rfl)
    refine wa_aload_n (i := 0) rfl rfl ?_
    refine wa_iload_n (i := 1) rfl rfl ?_
    refine wa_iconst (v := 1) (by decide) ?_
    refine wa_iadd ?_
    refine wa_top (fun v39 hv39 => ?_)
    have tv39 := i_addT hv39
    clear hv39
    refine wa_iload rfl ?_
    refine wa_iconst (v := 1) (by decide) ?_
    refine wa_iadd ?_
    refine wa_top (fun v40 hv40 => ?_)
    have tv40 := i_addT hv40
    clear hv40
    refine wa_Vv (d9 := d - 1) [.int _, .int _] [] (sp_X4_setTop G (d := d - 1) (by omega) s37 _ _) (rfl) rfl rfl (zr (by omega)) mk_X4_setTop ly_25 ml_4_160 (Nat.le_of_ble_eq_true rfl) (fun s41 hs41 => ?_)
    obtain ⟨fs41, -⟩ := hs41
    have Fs41 : Fm [7, 8, 9, 10, 11, 12, 13, 14, 15, 25, 26, 27, 28] [] σ s41 := Fm.tr Fs37 (Fm.wd fs41 rfl rfl)
    refine wa_goto o_X4_splitRest_143 (by decide) ?_
    refine wa_return (st := []) rfl rfl ?_
    exact ⟨Fs41, trivial⟩
set_option maxHeartbeats 4000000 in
theorem sp_X4_conclude (G : kG9) {d : Nat} (hd : 2 ≤ d) (σ : St) (a0 : Int32) (a1 : Int32) (a2 : Int32) : Ct G M_X4_conclude d [.ref 25, .int a0, .int a1, .int a2] σ (fun r σ' => Fm [7, 8, 9, 10, 11, 12, 13, 14, 15, 25, 26, 28] [] σ σ' ∧ True) := by
  refine wa_start (by decide) rfl (Nat.le_of_ble_eq_true rfl) (lv := [(0, .ref 25), (1, .int a0), (2, .int a1), (3, .int a2)]) rfl o_X4_conclude_0 rfl ?_
  have ua0 := Int32.toInt_lt a0
  have wa0 := Int32.le_toInt a0
  have ua1 := Int32.toInt_lt a1
  have wa1 := Int32.le_toInt a1
  have ua2 := Int32.toInt_lt a2
  have wa2 := Int32.le_toInt a2
  refine wa_aload_n (i := 0) rfl rfl ?_
  refine wa_iload_n (i := 3) rfl rfl ?_
  refine wa_Vi (d9 := d - 1) [.int _] [] (sp_X4_top G (d := d - 1) (by omega) σ _) (rfl) rfl rfl (zr (by omega)) mk_X4_top ly_25 ml_4_137 (Nat.le_of_ble_eq_true rfl) (fun x2 s1 hs1 => ?_)
  obtain ⟨zs1, -⟩ := pI hs1
  subst zs1
  refine wa_iconst (v := 1) (by decide) ?_
  refine wa_isub ?_
  refine wa_top (fun v3 hv3 => ?_)
  have tv3 := i_subT hv3
  clear hv3
  refine wa_istoreD (lv' := [(4, .int v3), (0, .ref 25), (1, .int a0), (2, .int a1), (3, .int a2)]) (by decide) rfl ?_
  refine wa_iload_n (i := 1) rfl rfl ?_
  refine wa_bipush (v := 33) (by decide) ?_
  refine wa_icmp_ne o_X4_conclude_31 (by decide) (fun h4 => ?_) (fun h4 => ?_)
  · refine wa_iload_n (i := 3) rfl rfl ?_
    refine wa_iload rfl ?_
    refine wa_iconst (v := 1) (by decide) ?_
    refine wa_iadd ?_
    refine wa_top (fun v5 hv5 => ?_)
    have tv5 := i_addT hv5
    clear hv5
    refine wa_Si (d9 := d - 1) [.int _, .int _] [] (sp_X4_form G (d := d - 1) (by omega) σ _ _) (rfl) rfl rfl (zr (by omega)) mk_X4_form ml_4_95 (Nat.le_of_ble_eq_true rfl) (fun x7 s6 hs6 => ?_)
    obtain ⟨zs6, cx7_1, -⟩ := pI hs6
    subst zs6
    refine wa_istoreD (lv' := [(5, .int x7), (4, .int v3), (0, .ref 25), (1, .int a0), (2, .int a1), (3, .int a2)]) (by decide) rfl ?_
    refine wa_aload_n (i := 0) rfl rfl ?_
    refine wa_iload_n (i := 3) rfl rfl ?_
    refine wa_iload rfl ?_
    refine wa_iconst (v := 1) (by decide) ?_
    refine wa_isub ?_
    refine wa_top (fun v8 hv8 => ?_)
    have tv8 := i_subT hv8
    clear hv8
    refine wa_Si (d9 := d - 1) [.int _, .int _] [.ref 25] (sp_X4_form G (d := d - 1) (by omega) σ _ _) (rfl) rfl rfl (zr (by omega)) mk_X4_form ml_4_95 (Nat.le_of_ble_eq_true rfl) (fun x10 s9 hs9 => ?_)
    obtain ⟨zs9, cx10_1, -⟩ := pI hs9
    subst zs9
    refine wa_iload_n (i := 3) rfl rfl ?_
    refine wa_iload rfl ?_
    refine wa_Si (d9 := d - 1) [.int _, .int _] [.int x10, .ref 25] (sp_X4_form G (d := d - 1) (by omega) σ _ _) (rfl) rfl rfl (zr (by omega)) mk_X4_form ml_4_95 (Nat.le_of_ble_eq_true rfl) (fun x12 s11 hs11 => ?_)
    obtain ⟨zs11, cx12_1, -⟩ := pI hs11
    subst zs11
    refine wa_iconst (v := (-1)) (by decide) ?_
    refine wa_iload rfl ?_
    refine wa_Vv (d9 := d - 1) [.int _, .int _, .int _, .int _] [] (sp_X4_combine G (d := d - 1) (by omega) σ _ _ _ _ (by ((try simp only [vp_in_iff, Int32.lt_iff_toInt_lt, Int32.le_iff_toInt_le, ← Int32.toInt_inj, Int32.reduceToInt, n_1, n_2, n_8, Int32.toNatClampNeg, Int64.lt_iff_toInt_lt, Int64.le_iff_toInt_le, ← Int64.toInt_inj, Int64.reduceToInt, Int32.toInt_toInt64, lg_cmp_ge, lg_cmp_le, lg_cmp_gt, lg_cmp_lt, lg_cmp_eq, Bool.false_eq_true, Bool.true_eq_false, reduceCtorEq, false_iff, true_iff, iff_true, iff_false, and_true, true_and, and_false, false_and, reduceIte, ite_true, ite_false, eq_self] at *)) <;> omega) (by ((try simp only [vp_in_iff, Int32.lt_iff_toInt_lt, Int32.le_iff_toInt_le, ← Int32.toInt_inj, Int32.reduceToInt, n_1, n_2, n_8, Int32.toNatClampNeg, Int64.lt_iff_toInt_lt, Int64.le_iff_toInt_le, ← Int64.toInt_inj, Int64.reduceToInt, Int32.toInt_toInt64, lg_cmp_ge, lg_cmp_le, lg_cmp_gt, lg_cmp_lt, lg_cmp_eq, Bool.false_eq_true, Bool.true_eq_false, reduceCtorEq, false_iff, true_iff, iff_true, iff_false, and_true, true_and, and_false, false_and, reduceIte, ite_true, ite_false, eq_self] at *)) <;> omega) (by ((try simp only [vp_in_iff, Int32.lt_iff_toInt_lt, Int32.le_iff_toInt_le, ← Int32.toInt_inj, Int32.reduceToInt, n_1, n_2, n_8, Int32.toNatClampNeg, Int64.lt_iff_toInt_lt, Int64.le_iff_toInt_le, ← Int64.toInt_inj, Int64.reduceToInt, Int32.toInt_toInt64, lg_cmp_ge, lg_cmp_le, lg_cmp_gt, lg_cmp_lt, lg_cmp_eq, Bool.false_eq_true, Bool.true_eq_false, reduceCtorEq, false_iff, true_iff, iff_true, iff_false, and_true, true_and, and_false, false_and, reduceIte, ite_true, ite_false, eq_self] at *)) <;> omega)) (rfl) rfl rfl (zr (by omega)) mk_X4_combine ly_25 ml_4_153 (Nat.le_of_ble_eq_true rfl) (fun s13 hs13 => ?_)
    obtain ⟨fs13, -⟩ := hs13
    have Fs13 : Fm [7, 8, 9, 10, 11, 12, 13, 14, 15, 25, 26, 28] [] σ s13 := Fm.tr (Fm.rf [7, 8, 9, 10, 11, 12, 13, 14, 15, 25, 26, 28] [] σ) (Fm.wd fs13 rfl rfl)
    refine wa_aload_n (i := 0) rfl rfl ?_
    refine wa_iload rfl ?_
    refine wa_Vv (d9 := d - 1) [.int _] [] (sp_X4_check G (d := d - 1) (by omega) s13 _ (by ((try simp only [vp_in_iff, Int32.lt_iff_toInt_lt, Int32.le_iff_toInt_le, ← Int32.toInt_inj, Int32.reduceToInt, n_1, n_2, n_8, Int32.toNatClampNeg, Int64.lt_iff_toInt_lt, Int64.le_iff_toInt_le, ← Int64.toInt_inj, Int64.reduceToInt, Int32.toInt_toInt64, lg_cmp_ge, lg_cmp_le, lg_cmp_gt, lg_cmp_lt, lg_cmp_eq, Bool.false_eq_true, Bool.true_eq_false, reduceCtorEq, false_iff, true_iff, iff_true, iff_false, and_true, true_and, and_false, false_and, reduceIte, ite_true, ite_false, eq_self] at *)) <;> omega)) (rfl) rfl rfl (zr (by omega)) mk_X4_check ly_25 ml_4_157 (Nat.le_of_ble_eq_true rfl) (fun s15 hs15 => ?_)
    obtain ⟨fs15, -⟩ := hs15
    have Fs15 : Fm [7, 8, 9, 10, 11, 12, 13, 14, 15, 25, 26, 28] [] σ s15 := Fm.tr Fs13 (Fm.wd fs15 rfl rfl)
    refine wa_iload_n (i := 1) rfl rfl ?_
    refine wa_bipush (v := 14) (by decide) ?_
    refine wa_icmp_eq o_X4_conclude_80 (by decide) (fun h17 => ?_) (fun h17 => ?_)
    · refine wa_aload_n (i := 0) rfl rfl ?_
      refine wa_aload_n (i := 0) rfl rfl ?_
      refine wa_iload rfl ?_
      refine wa_iconst (v := 1) (by decide) ?_
      refine wa_iload_n (i := 1) rfl rfl ?_
      refine wa_bipush (v := 14) (by decide) ?_
      refine wa_icmp_ne o_X4_conclude_95 (by decide) (fun h18 => ?_) (fun h18 => ?_)
      · refine wa_iconst (v := 0) (by decide) ?_
        refine wa_Vi (d9 := d - 1) [.int _, .int _, .int _] [.ref 25] (sp_X4_lineOf G (d := d - 1) (by omega) s15 _ _ _ (by ((try simp only [vp_in_iff, Int32.lt_iff_toInt_lt, Int32.le_iff_toInt_le, ← Int32.toInt_inj, Int32.reduceToInt, n_1, n_2, n_8, Int32.toNatClampNeg, Int64.lt_iff_toInt_lt, Int64.le_iff_toInt_le, ← Int64.toInt_inj, Int64.reduceToInt, Int32.toInt_toInt64, lg_cmp_ge, lg_cmp_le, lg_cmp_gt, lg_cmp_lt, lg_cmp_eq, Bool.false_eq_true, Bool.true_eq_false, reduceCtorEq, false_iff, true_iff, iff_true, iff_false, and_true, true_and, and_false, false_and, reduceIte, ite_true, ite_false, eq_self] at *)) <;> omega)) (rfl) rfl rfl (zr (by omega)) mk_X4_lineOf ly_25 ml_4_140 (Nat.le_of_ble_eq_true rfl) (fun x20 s19 hs19 => ?_)
        obtain ⟨fs19, -⟩ := pI hs19
        have Fs19 : Fm [7, 8, 9, 10, 11, 12, 13, 14, 15, 25, 26, 28] [] σ s19 := Fm.tr Fs15 (Fm.wd fs19 rfl rfl)
        refine wa_Vv (d9 := d - 1) [.int _] [] (sp_X4_add G (d := d - 1) (by omega) s19 _) (rfl) rfl rfl (zr (by omega)) mk_X4_add ly_25 ml_4_144 (Nat.le_of_ble_eq_true rfl) (fun s21 hs21 => ?_)
        obtain ⟨fs21, -⟩ := hs21
        have Fs21 : Fm [7, 8, 9, 10, 11, 12, 13, 14, 15, 25, 26, 28] [] σ s21 := Fm.tr Fs19 (Fm.wd fs21 rfl rfl)
        refine wa_goto o_X4_conclude_184 (by decide) ?_
        refine wa_return (st := []) rfl rfl ?_
        exact ⟨Fs21, trivial⟩
      · refine wa_iconst (v := 1) (by decide) ?_
        refine wa_goto o_X4_conclude_96 (by decide) ?_
        refine wa_Vi (d9 := d - 1) [.int _, .int _, .int _] [.ref 25] (sp_X4_lineOf G (d := d - 1) (by omega) s15 _ _ _ (by ((try simp only [vp_in_iff, Int32.lt_iff_toInt_lt, Int32.le_iff_toInt_le, ← Int32.toInt_inj, Int32.reduceToInt, n_1, n_2, n_8, Int32.toNatClampNeg, Int64.lt_iff_toInt_lt, Int64.le_iff_toInt_le, ← Int64.toInt_inj, Int64.reduceToInt, Int32.toInt_toInt64, lg_cmp_ge, lg_cmp_le, lg_cmp_gt, lg_cmp_lt, lg_cmp_eq, Bool.false_eq_true, Bool.true_eq_false, reduceCtorEq, false_iff, true_iff, iff_true, iff_false, and_true, true_and, and_false, false_and, reduceIte, ite_true, ite_false, eq_self] at *)) <;> omega)) (rfl) rfl rfl (zr (by omega)) mk_X4_lineOf ly_25 ml_4_140 (Nat.le_of_ble_eq_true rfl) (fun x24 s23 hs23 => ?_)
        obtain ⟨fs23, -⟩ := pI hs23
        have Fs23 : Fm [7, 8, 9, 10, 11, 12, 13, 14, 15, 25, 26, 28] [] σ s23 := Fm.tr Fs15 (Fm.wd fs23 rfl rfl)
        refine wa_Vv (d9 := d - 1) [.int _] [] (sp_X4_add G (d := d - 1) (by omega) s23 _) (rfl) rfl rfl (zr (by omega)) mk_X4_add ly_25 ml_4_144 (Nat.le_of_ble_eq_true rfl) (fun s25 hs25 => ?_)
        obtain ⟨fs25, -⟩ := hs25
        have Fs25 : Fm [7, 8, 9, 10, 11, 12, 13, 14, 15, 25, 26, 28] [] σ s25 := Fm.tr Fs23 (Fm.wd fs25 rfl rfl)
        refine wa_goto o_X4_conclude_184 (by decide) ?_
        refine wa_return (st := []) rfl rfl ?_
        exact ⟨Fs25, trivial⟩
    · refine wa_iload_n (i := 1) rfl rfl ?_
      refine wa_bipush (v := 16) (by decide) ?_
      refine wa_icmp_ne o_X4_conclude_105 (by decide) (fun h27 => ?_) (fun h27 => ?_)
      · refine wa_iload_n (i := 1) rfl rfl ?_
        refine wa_bipush (v := 15) (by decide) ?_
        refine wa_icmp_eq o_X4_conclude_117 (by decide) (fun h28 => ?_) (fun h28 => ?_)
        · refine wa_aload_n (i := 0) rfl rfl ?_
          refine wa_aload_n (i := 0) rfl rfl ?_
          refine wa_iload rfl ?_
          refine wa_iconst (v := (-1)) (by decide) ?_
          refine wa_iload_n (i := 1) rfl rfl ?_
          refine wa_bipush (v := 15) (by decide) ?_
          refine wa_icmp_ne o_X4_conclude_132 (by decide) (fun h29 => ?_) (fun h29 => ?_)
          · refine wa_iconst (v := 0) (by decide) ?_
            refine wa_Vi (d9 := d - 1) [.int _, .int _, .int _] [.ref 25] (sp_X4_lineOf G (d := d - 1) (by omega) s15 _ _ _ (by ((try simp only [vp_in_iff, Int32.lt_iff_toInt_lt, Int32.le_iff_toInt_le, ← Int32.toInt_inj, Int32.reduceToInt, n_1, n_2, n_8, Int32.toNatClampNeg, Int64.lt_iff_toInt_lt, Int64.le_iff_toInt_le, ← Int64.toInt_inj, Int64.reduceToInt, Int32.toInt_toInt64, lg_cmp_ge, lg_cmp_le, lg_cmp_gt, lg_cmp_lt, lg_cmp_eq, Bool.false_eq_true, Bool.true_eq_false, reduceCtorEq, false_iff, true_iff, iff_true, iff_false, and_true, true_and, and_false, false_and, reduceIte, ite_true, ite_false, eq_self] at *)) <;> omega)) (rfl) rfl rfl (zr (by omega)) mk_X4_lineOf ly_25 ml_4_140 (Nat.le_of_ble_eq_true rfl) (fun x31 s30 hs30 => ?_)
            obtain ⟨fs30, -⟩ := pI hs30
            have Fs30 : Fm [7, 8, 9, 10, 11, 12, 13, 14, 15, 25, 26, 28] [] σ s30 := Fm.tr Fs15 (Fm.wd fs30 rfl rfl)
            refine wa_Vv (d9 := d - 1) [.int _] [] (sp_X4_add G (d := d - 1) (by omega) s30 _) (rfl) rfl rfl (zr (by omega)) mk_X4_add ly_25 ml_4_144 (Nat.le_of_ble_eq_true rfl) (fun s32 hs32 => ?_)
            obtain ⟨fs32, -⟩ := hs32
            have Fs32 : Fm [7, 8, 9, 10, 11, 12, 13, 14, 15, 25, 26, 28] [] σ s32 := Fm.tr Fs30 (Fm.wd fs32 rfl rfl)
            refine wa_goto o_X4_conclude_184 (by decide) ?_
            refine wa_return (st := []) rfl rfl ?_
            exact ⟨Fs32, trivial⟩
          · refine wa_iconst (v := 1) (by decide) ?_
            refine wa_goto o_X4_conclude_133 (by decide) ?_
            refine wa_Vi (d9 := d - 1) [.int _, .int _, .int _] [.ref 25] (sp_X4_lineOf G (d := d - 1) (by omega) s15 _ _ _ (by ((try simp only [vp_in_iff, Int32.lt_iff_toInt_lt, Int32.le_iff_toInt_le, ← Int32.toInt_inj, Int32.reduceToInt, n_1, n_2, n_8, Int32.toNatClampNeg, Int64.lt_iff_toInt_lt, Int64.le_iff_toInt_le, ← Int64.toInt_inj, Int64.reduceToInt, Int32.toInt_toInt64, lg_cmp_ge, lg_cmp_le, lg_cmp_gt, lg_cmp_lt, lg_cmp_eq, Bool.false_eq_true, Bool.true_eq_false, reduceCtorEq, false_iff, true_iff, iff_true, iff_false, and_true, true_and, and_false, false_and, reduceIte, ite_true, ite_false, eq_self] at *)) <;> omega)) (rfl) rfl rfl (zr (by omega)) mk_X4_lineOf ly_25 ml_4_140 (Nat.le_of_ble_eq_true rfl) (fun x35 s34 hs34 => ?_)
            obtain ⟨fs34, -⟩ := pI hs34
            have Fs34 : Fm [7, 8, 9, 10, 11, 12, 13, 14, 15, 25, 26, 28] [] σ s34 := Fm.tr Fs15 (Fm.wd fs34 rfl rfl)
            refine wa_Vv (d9 := d - 1) [.int _] [] (sp_X4_add G (d := d - 1) (by omega) s34 _) (rfl) rfl rfl (zr (by omega)) mk_X4_add ly_25 ml_4_144 (Nat.le_of_ble_eq_true rfl) (fun s36 hs36 => ?_)
            obtain ⟨fs36, -⟩ := hs36
            have Fs36 : Fm [7, 8, 9, 10, 11, 12, 13, 14, 15, 25, 26, 28] [] σ s36 := Fm.tr Fs34 (Fm.wd fs36 rfl rfl)
            refine wa_goto o_X4_conclude_184 (by decide) ?_
            refine wa_return (st := []) rfl rfl ?_
            exact ⟨Fs36, trivial⟩
        · refine wa_iload_n (i := 1) rfl rfl ?_
          refine wa_bipush (v := 17) (by decide) ?_
          refine wa_icmp_ne o_X4_conclude_142 (by decide) (fun h38 => ?_) (fun h38 => ?_)
          · refine wa_aload_n (i := 0) rfl rfl ?_
            refine wa_aload_n (i := 0) rfl rfl ?_
            refine wa_iload rfl ?_
            refine wa_iconst (v := 1) (by decide) ?_
            refine wa_iconst (v := 0) (by decide) ?_
            refine wa_Vi (d9 := d - 1) [.int _, .int _, .int _] [.ref 25] (sp_X4_lineOf G (d := d - 1) (by omega) s15 _ _ _ (by ((try simp only [vp_in_iff, Int32.lt_iff_toInt_lt, Int32.le_iff_toInt_le, ← Int32.toInt_inj, Int32.reduceToInt, n_1, n_2, n_8, Int32.toNatClampNeg, Int64.lt_iff_toInt_lt, Int64.le_iff_toInt_le, ← Int64.toInt_inj, Int64.reduceToInt, Int32.toInt_toInt64, lg_cmp_ge, lg_cmp_le, lg_cmp_gt, lg_cmp_lt, lg_cmp_eq, Bool.false_eq_true, Bool.true_eq_false, reduceCtorEq, false_iff, true_iff, iff_true, iff_false, and_true, true_and, and_false, false_and, reduceIte, ite_true, ite_false, eq_self] at *)) <;> omega)) (rfl) rfl rfl (zr (by omega)) mk_X4_lineOf ly_25 ml_4_140 (Nat.le_of_ble_eq_true rfl) (fun x40 s39 hs39 => ?_)
            obtain ⟨fs39, -⟩ := pI hs39
            have Fs39 : Fm [7, 8, 9, 10, 11, 12, 13, 14, 15, 25, 26, 28] [] σ s39 := Fm.tr Fs15 (Fm.wd fs39 rfl rfl)
            refine wa_Vv (d9 := d - 1) [.int _] [] (sp_X4_add G (d := d - 1) (by omega) s39 _) (rfl) rfl rfl (zr (by omega)) mk_X4_add ly_25 ml_4_144 (Nat.le_of_ble_eq_true rfl) (fun s41 hs41 => ?_)
            obtain ⟨fs41, -⟩ := hs41
            have Fs41 : Fm [7, 8, 9, 10, 11, 12, 13, 14, 15, 25, 26, 28] [] σ s41 := Fm.tr Fs39 (Fm.wd fs41 rfl rfl)
            refine wa_aload_n (i := 0) rfl rfl ?_
            refine wa_aload_n (i := 0) rfl rfl ?_
            refine wa_iload rfl ?_
            refine wa_iconst (v := (-1)) (by decide) ?_
            refine wa_iconst (v := 0) (by decide) ?_
            refine wa_Vi (d9 := d - 1) [.int _, .int _, .int _] [.ref 25] (sp_X4_lineOf G (d := d - 1) (by omega) s41 _ _ _ (by ((try simp only [vp_in_iff, Int32.lt_iff_toInt_lt, Int32.le_iff_toInt_le, ← Int32.toInt_inj, Int32.reduceToInt, n_1, n_2, n_8, Int32.toNatClampNeg, Int64.lt_iff_toInt_lt, Int64.le_iff_toInt_le, ← Int64.toInt_inj, Int64.reduceToInt, Int32.toInt_toInt64, lg_cmp_ge, lg_cmp_le, lg_cmp_gt, lg_cmp_lt, lg_cmp_eq, Bool.false_eq_true, Bool.true_eq_false, reduceCtorEq, false_iff, true_iff, iff_true, iff_false, and_true, true_and, and_false, false_and, reduceIte, ite_true, ite_false, eq_self] at *)) <;> omega)) (rfl) rfl rfl (zr (by omega)) mk_X4_lineOf ly_25 ml_4_140 (Nat.le_of_ble_eq_true rfl) (fun x44 s43 hs43 => ?_)
            obtain ⟨fs43, -⟩ := pI hs43
            have Fs43 : Fm [7, 8, 9, 10, 11, 12, 13, 14, 15, 25, 26, 28] [] σ s43 := Fm.tr Fs41 (Fm.wd fs43 rfl rfl)
            refine wa_Vv (d9 := d - 1) [.int _] [] (sp_X4_add G (d := d - 1) (by omega) s43 _) (rfl) rfl rfl (zr (by omega)) mk_X4_add ly_25 ml_4_144 (Nat.le_of_ble_eq_true rfl) (fun s45 hs45 => ?_)
            obtain ⟨fs45, -⟩ := hs45
            have Fs45 : Fm [7, 8, 9, 10, 11, 12, 13, 14, 15, 25, 26, 28] [] σ s45 := Fm.tr Fs43 (Fm.wd fs45 rfl rfl)
            refine wa_aload_n (i := 0) rfl rfl ?_
            refine wa_bipush (v := (-23)) (by decide) ?_
            refine wa_Vv (d9 := d - 1) [.int _] [] (sp_X4_emit G (d := d - 1) (by omega) s45 _) (rfl) rfl rfl (zr (by omega)) mk_X4_emit ly_25 ml_4_76 (Nat.le_of_ble_eq_true rfl) (fun s47 hs47 => ?_)
            obtain ⟨fs47, -⟩ := hs47
            have Fs47 : Fm [7, 8, 9, 10, 11, 12, 13, 14, 15, 25, 26, 28] [] σ s47 := Fm.tr Fs45 (Fm.wd fs47 rfl rfl)
            refine wa_iload_n (i := 1) rfl rfl ?_
            refine wa_bipush (v := 18) (by decide) ?_
            refine wa_icmp_ne o_X4_conclude_184 (by decide) (fun h49 => ?_) (fun h49 => ?_)
            · refine wa_return (st := []) rfl rfl ?_
              exact ⟨Fs47, trivial⟩
            · refine wa_aload_n (i := 0) rfl rfl ?_
              refine wa_bipush (v := (-25)) (by decide) ?_
              refine wa_Vv (d9 := d - 1) [.int _] [] (sp_X4_emit G (d := d - 1) (by omega) s47 _) (rfl) rfl rfl (zr (by omega)) mk_X4_emit ly_25 ml_4_76 (Nat.le_of_ble_eq_true rfl) (fun s50 hs50 => ?_)
              obtain ⟨fs50, -⟩ := hs50
              have Fs50 : Fm [7, 8, 9, 10, 11, 12, 13, 14, 15, 25, 26, 28] [] σ s50 := Fm.tr Fs47 (Fm.wd fs50 rfl rfl)
              refine wa_return (st := []) rfl rfl ?_
              exact ⟨Fs50, trivial⟩
          · refine wa_aload_n (i := 0) rfl rfl ?_
            refine wa_aload_n (i := 0) rfl rfl ?_
            refine wa_iload rfl ?_
            refine wa_iconst (v := (-1)) (by decide) ?_
            refine wa_iload_n (i := 1) rfl rfl ?_
            refine wa_bipush (v := 15) (by decide) ?_
            refine wa_icmp_ne o_X4_conclude_132 (by decide) (fun h52 => ?_) (fun h52 => ?_)
            · refine wa_iconst (v := 0) (by decide) ?_
              refine wa_Vi (d9 := d - 1) [.int _, .int _, .int _] [.ref 25] (sp_X4_lineOf G (d := d - 1) (by omega) s15 _ _ _ (by ((try simp only [vp_in_iff, Int32.lt_iff_toInt_lt, Int32.le_iff_toInt_le, ← Int32.toInt_inj, Int32.reduceToInt, n_1, n_2, n_8, Int32.toNatClampNeg, Int64.lt_iff_toInt_lt, Int64.le_iff_toInt_le, ← Int64.toInt_inj, Int64.reduceToInt, Int32.toInt_toInt64, lg_cmp_ge, lg_cmp_le, lg_cmp_gt, lg_cmp_lt, lg_cmp_eq, Bool.false_eq_true, Bool.true_eq_false, reduceCtorEq, false_iff, true_iff, iff_true, iff_false, and_true, true_and, and_false, false_and, reduceIte, ite_true, ite_false, eq_self] at *)) <;> omega)) (rfl) rfl rfl (zr (by omega)) mk_X4_lineOf ly_25 ml_4_140 (Nat.le_of_ble_eq_true rfl) (fun x54 s53 hs53 => ?_)
              obtain ⟨fs53, -⟩ := pI hs53
              have Fs53 : Fm [7, 8, 9, 10, 11, 12, 13, 14, 15, 25, 26, 28] [] σ s53 := Fm.tr Fs15 (Fm.wd fs53 rfl rfl)
              refine wa_Vv (d9 := d - 1) [.int _] [] (sp_X4_add G (d := d - 1) (by omega) s53 _) (rfl) rfl rfl (zr (by omega)) mk_X4_add ly_25 ml_4_144 (Nat.le_of_ble_eq_true rfl) (fun s55 hs55 => ?_)
              obtain ⟨fs55, -⟩ := hs55
              have Fs55 : Fm [7, 8, 9, 10, 11, 12, 13, 14, 15, 25, 26, 28] [] σ s55 := Fm.tr Fs53 (Fm.wd fs55 rfl rfl)
              refine wa_goto o_X4_conclude_184 (by decide) ?_
              refine wa_return (st := []) rfl rfl ?_
              exact ⟨Fs55, trivial⟩
            · refine wa_iconst (v := 1) (by decide) ?_
              refine wa_goto o_X4_conclude_133 (by decide) ?_
              refine wa_Vi (d9 := d - 1) [.int _, .int _, .int _] [.ref 25] (sp_X4_lineOf G (d := d - 1) (by omega) s15 _ _ _ (by ((try simp only [vp_in_iff, Int32.lt_iff_toInt_lt, Int32.le_iff_toInt_le, ← Int32.toInt_inj, Int32.reduceToInt, n_1, n_2, n_8, Int32.toNatClampNeg, Int64.lt_iff_toInt_lt, Int64.le_iff_toInt_le, ← Int64.toInt_inj, Int64.reduceToInt, Int32.toInt_toInt64, lg_cmp_ge, lg_cmp_le, lg_cmp_gt, lg_cmp_lt, lg_cmp_eq, Bool.false_eq_true, Bool.true_eq_false, reduceCtorEq, false_iff, true_iff, iff_true, iff_false, and_true, true_and, and_false, false_and, reduceIte, ite_true, ite_false, eq_self] at *)) <;> omega)) (rfl) rfl rfl (zr (by omega)) mk_X4_lineOf ly_25 ml_4_140 (Nat.le_of_ble_eq_true rfl) (fun x58 s57 hs57 => ?_)
              obtain ⟨fs57, -⟩ := pI hs57
              have Fs57 : Fm [7, 8, 9, 10, 11, 12, 13, 14, 15, 25, 26, 28] [] σ s57 := Fm.tr Fs15 (Fm.wd fs57 rfl rfl)
              refine wa_Vv (d9 := d - 1) [.int _] [] (sp_X4_add G (d := d - 1) (by omega) s57 _) (rfl) rfl rfl (zr (by omega)) mk_X4_add ly_25 ml_4_144 (Nat.le_of_ble_eq_true rfl) (fun s59 hs59 => ?_)
              obtain ⟨fs59, -⟩ := hs59
              have Fs59 : Fm [7, 8, 9, 10, 11, 12, 13, 14, 15, 25, 26, 28] [] σ s59 := Fm.tr Fs57 (Fm.wd fs59 rfl rfl)
              refine wa_goto o_X4_conclude_184 (by decide) ?_
              refine wa_return (st := []) rfl rfl ?_
              exact ⟨Fs59, trivial⟩
      · refine wa_aload_n (i := 0) rfl rfl ?_
        refine wa_aload_n (i := 0) rfl rfl ?_
        refine wa_iload rfl ?_
        refine wa_iconst (v := 1) (by decide) ?_
        refine wa_iload_n (i := 1) rfl rfl ?_
        refine wa_bipush (v := 14) (by decide) ?_
        refine wa_icmp_ne o_X4_conclude_95 (by decide) (fun h61 => ?_) (fun h61 => ?_)
        · refine wa_iconst (v := 0) (by decide) ?_
          refine wa_Vi (d9 := d - 1) [.int _, .int _, .int _] [.ref 25] (sp_X4_lineOf G (d := d - 1) (by omega) s15 _ _ _ (by ((try simp only [vp_in_iff, Int32.lt_iff_toInt_lt, Int32.le_iff_toInt_le, ← Int32.toInt_inj, Int32.reduceToInt, n_1, n_2, n_8, Int32.toNatClampNeg, Int64.lt_iff_toInt_lt, Int64.le_iff_toInt_le, ← Int64.toInt_inj, Int64.reduceToInt, Int32.toInt_toInt64, lg_cmp_ge, lg_cmp_le, lg_cmp_gt, lg_cmp_lt, lg_cmp_eq, Bool.false_eq_true, Bool.true_eq_false, reduceCtorEq, false_iff, true_iff, iff_true, iff_false, and_true, true_and, and_false, false_and, reduceIte, ite_true, ite_false, eq_self] at *)) <;> omega)) (rfl) rfl rfl (zr (by omega)) mk_X4_lineOf ly_25 ml_4_140 (Nat.le_of_ble_eq_true rfl) (fun x63 s62 hs62 => ?_)
          obtain ⟨fs62, -⟩ := pI hs62
          have Fs62 : Fm [7, 8, 9, 10, 11, 12, 13, 14, 15, 25, 26, 28] [] σ s62 := Fm.tr Fs15 (Fm.wd fs62 rfl rfl)
          refine wa_Vv (d9 := d - 1) [.int _] [] (sp_X4_add G (d := d - 1) (by omega) s62 _) (rfl) rfl rfl (zr (by omega)) mk_X4_add ly_25 ml_4_144 (Nat.le_of_ble_eq_true rfl) (fun s64 hs64 => ?_)
          obtain ⟨fs64, -⟩ := hs64
          have Fs64 : Fm [7, 8, 9, 10, 11, 12, 13, 14, 15, 25, 26, 28] [] σ s64 := Fm.tr Fs62 (Fm.wd fs64 rfl rfl)
          refine wa_goto o_X4_conclude_184 (by decide) ?_
          refine wa_return (st := []) rfl rfl ?_
          exact ⟨Fs64, trivial⟩
        · refine wa_iconst (v := 1) (by decide) ?_
          refine wa_goto o_X4_conclude_96 (by decide) ?_
          refine wa_Vi (d9 := d - 1) [.int _, .int _, .int _] [.ref 25] (sp_X4_lineOf G (d := d - 1) (by omega) s15 _ _ _ (by ((try simp only [vp_in_iff, Int32.lt_iff_toInt_lt, Int32.le_iff_toInt_le, ← Int32.toInt_inj, Int32.reduceToInt, n_1, n_2, n_8, Int32.toNatClampNeg, Int64.lt_iff_toInt_lt, Int64.le_iff_toInt_le, ← Int64.toInt_inj, Int64.reduceToInt, Int32.toInt_toInt64, lg_cmp_ge, lg_cmp_le, lg_cmp_gt, lg_cmp_lt, lg_cmp_eq, Bool.false_eq_true, Bool.true_eq_false, reduceCtorEq, false_iff, true_iff, iff_true, iff_false, and_true, true_and, and_false, false_and, reduceIte, ite_true, ite_false, eq_self] at *)) <;> omega)) (rfl) rfl rfl (zr (by omega)) mk_X4_lineOf ly_25 ml_4_140 (Nat.le_of_ble_eq_true rfl) (fun x67 s66 hs66 => ?_)
          obtain ⟨fs66, -⟩ := pI hs66
          have Fs66 : Fm [7, 8, 9, 10, 11, 12, 13, 14, 15, 25, 26, 28] [] σ s66 := Fm.tr Fs15 (Fm.wd fs66 rfl rfl)
          refine wa_Vv (d9 := d - 1) [.int _] [] (sp_X4_add G (d := d - 1) (by omega) s66 _) (rfl) rfl rfl (zr (by omega)) mk_X4_add ly_25 ml_4_144 (Nat.le_of_ble_eq_true rfl) (fun s68 hs68 => ?_)
          obtain ⟨fs68, -⟩ := hs68
          have Fs68 : Fm [7, 8, 9, 10, 11, 12, 13, 14, 15, 25, 26, 28] [] σ s68 := Fm.tr Fs66 (Fm.wd fs68 rfl rfl)
          refine wa_goto o_X4_conclude_184 (by decide) ?_
          refine wa_return (st := []) rfl rfl ?_
          exact ⟨Fs68, trivial⟩
  · refine wa_aload_n (i := 0) rfl rfl ?_
    refine wa_aload_n (i := 0) rfl rfl ?_
    refine wa_iload_n (i := 3) rfl rfl ?_
    refine wa_iload rfl ?_
    refine wa_Si (d9 := d - 1) [.int _, .int _] [.ref 25, .ref 25] (sp_X4_form G (d := d - 1) (by omega) σ _ _) (rfl) rfl rfl (zr (by omega)) mk_X4_form ml_4_95 (Nat.le_of_ble_eq_true rfl) (fun x71 s70 hs70 => ?_)
    obtain ⟨zs70, cx71_1, -⟩ := pI hs70
    subst zs70
    refine wa_iload_n (i := 2) rfl rfl ?_
    refine wa_Vi (d9 := d - 1) [.int _, .int _] [.ref 25] (sp_X4_divisorOf G (d := d - 1) (by omega) σ _ _ (by ((try simp only [vp_in_iff, Int32.lt_iff_toInt_lt, Int32.le_iff_toInt_le, ← Int32.toInt_inj, Int32.reduceToInt, n_1, n_2, n_8, Int32.toNatClampNeg, Int64.lt_iff_toInt_lt, Int64.le_iff_toInt_le, ← Int64.toInt_inj, Int64.reduceToInt, Int32.toInt_toInt64, lg_cmp_ge, lg_cmp_le, lg_cmp_gt, lg_cmp_lt, lg_cmp_eq, Bool.false_eq_true, Bool.true_eq_false, reduceCtorEq, false_iff, true_iff, iff_true, iff_false, and_true, true_and, and_false, false_and, reduceIte, ite_true, ite_false, eq_self] at *)) <;> omega)) (rfl) rfl rfl (zr (by omega)) mk_X4_divisorOf ly_25 ml_4_166 (Nat.le_of_ble_eq_true rfl) (fun x73 s72 hs72 => ?_)
    obtain ⟨fs72, -⟩ := pI hs72
    have Fs72 : Fm [7, 8, 9, 10, 11, 12, 13, 14, 15, 25, 26, 28] [] σ s72 := Fm.tr (Fm.rf [7, 8, 9, 10, 11, 12, 13, 14, 15, 25, 26, 28] [] σ) (Fm.wd fs72 rfl rfl)
    refine wa_Vv (d9 := d - 1) [.int _] [] (sp_X4_add G (d := d - 1) (by omega) s72 _) (rfl) rfl rfl (zr (by omega)) mk_X4_add ly_25 ml_4_144 (Nat.le_of_ble_eq_true rfl) (fun s74 hs74 => ?_)
    obtain ⟨fs74, -⟩ := hs74
    have Fs74 : Fm [7, 8, 9, 10, 11, 12, 13, 14, 15, 25, 26, 28] [] σ s74 := Fm.tr Fs72 (Fm.wd fs74 rfl rfl)
    refine wa_return (st := []) rfl rfl ?_
    exact ⟨Fs74, trivial⟩
set_option maxHeartbeats 4000000 in
theorem sp_X4_work (G : kG9) {d : Nat} (hd : 2 ≤ d) (σ : St) (a0 : Int32) (a1 : Int32) (a2 : Int32) : Ct G M_X4_work d [.ref 25, .int a0, .int a1, .int a2] σ (fun r σ' => Fm [25, 26, 27] [] σ σ' ∧ True) := by
  refine wa_start (by decide) rfl (Nat.le_of_ble_eq_true rfl) (lv := [(0, .ref 25), (1, .int a0), (2, .int a1), (3, .int a2)]) rfl o_X4_work_0 rfl ?_
  have ua0 := Int32.toInt_lt a0
  have wa0 := Int32.le_toInt a0
  have ua1 := Int32.toInt_lt a1
  have wa1 := Int32.le_toInt a1
  have ua2 := Int32.toInt_lt a2
  have wa2 := Int32.le_toInt a2
  refine wa_aload_n (i := 0) rfl rfl ?_
  refine wa_iload_n (i := 3) rfl rfl ?_
  refine wa_Vi (d9 := d - 1) [.int _] [] (sp_X4_top G (d := d - 1) (by omega) σ _) (rfl) rfl rfl (zr (by omega)) mk_X4_top ly_25 ml_4_137 (Nat.le_of_ble_eq_true rfl) (fun x2 s1 hs1 => ?_)
  obtain ⟨zs1, -⟩ := pI hs1
  subst zs1
  refine wa_iconst (v := 1) (by decide) ?_
  refine wa_isub ?_
  refine wa_top (fun v3 hv3 => ?_)
  have tv3 := i_subT hv3
  clear hv3
  refine wa_istoreD (lv' := [(4, .int v3), (0, .ref 25), (1, .int a0), (2, .int a1), (3, .int a2)]) (by decide) rfl ?_
  refine wa_iload_n (i := 1) rfl rfl ?_
  refine wa_top (fun q4 hq4 => ?_)
  by_cases h5 : q4 = 2
  · refine wa_lsw (by decide) (by rw [h5] <;> rfl) o_X4_work_70 (by decide) ?_
    refine wa_aload_n (i := 0) rfl rfl ?_
    refine wa_iload_n (i := 3) rfl rfl ?_
    refine wa_iconst (v := (-1)) (by decide) ?_
    refine wa_iload_n (i := 2) rfl rfl ?_
    refine wa_Vv (d9 := d - 1) [.int _, .int _, .int _] [] (sp_X4_pushForm G (d := d - 1) (by omega) σ _ _ _) (rfl) rfl rfl (zr (by omega)) mk_X4_pushForm ly_25 ml_4_169 (Nat.le_of_ble_eq_true rfl) (fun s6 hs6 => ?_)
    obtain ⟨fs6, -⟩ := hs6
    have Fs6 : Fm [25, 26, 27] [] σ s6 := Fm.tr (Fm.rf [25, 26, 27] [] σ) (Fm.wd fs6 rfl rfl)
    refine wa_goto o_X4_work_155 (by decide) ?_
    refine wa_return (st := []) rfl rfl ?_
    exact ⟨Fs6, trivial⟩
  ·
    by_cases h8 : q4 = 11
    · refine wa_lsw (by decide) (by rw [h8] <;> rfl) o_X4_work_108 (by decide) ?_
      refine wa_aload_n (i := 0) rfl rfl ?_
      refine wa_iload_n (i := 3) rfl rfl ?_
      refine wa_iload rfl ?_
      refine wa_iconst (v := 1) (by decide) ?_
      refine wa_isub ?_
      refine wa_top (fun v9 hv9 => ?_)
      have tv9 := i_subT hv9
      clear hv9
      refine wa_Si (d9 := d - 1) [.int _, .int _] [.ref 25] (sp_X4_form G (d := d - 1) (by omega) σ _ _) (rfl) rfl rfl (zr (by omega)) mk_X4_form ml_4_95 (Nat.le_of_ble_eq_true rfl) (fun x11 s10 hs10 => ?_)
      obtain ⟨zs10, cx11_1, -⟩ := pI hs10
      subst zs10
      refine wa_iload_n (i := 3) rfl rfl ?_
      refine wa_iload rfl ?_
      refine wa_Si (d9 := d - 1) [.int _, .int _] [.int x11, .ref 25] (sp_X4_form G (d := d - 1) (by omega) σ _ _) (rfl) rfl rfl (zr (by omega)) mk_X4_form ml_4_95 (Nat.le_of_ble_eq_true rfl) (fun x13 s12 hs12 => ?_)
      obtain ⟨zs12, cx13_1, -⟩ := pI hs12
      subst zs12
      refine wa_iconst (v := 1) (by decide) ?_
      refine wa_iload_n (i := 3) rfl rfl ?_
      refine wa_iload rfl ?_
      refine wa_iconst (v := 1) (by decide) ?_
      refine wa_isub ?_
      refine wa_top (fun v14 hv14 => ?_)
      have tv14 := i_subT hv14
      clear hv14
      refine wa_Si (d9 := d - 1) [.int _, .int _] [.int 1, .int x13, .int x11, .ref 25] (sp_X4_form G (d := d - 1) (by omega) σ _ _) (rfl) rfl rfl (zr (by omega)) mk_X4_form ml_4_95 (Nat.le_of_ble_eq_true rfl) (fun x16 s15 hs15 => ?_)
      obtain ⟨zs15, cx16_1, -⟩ := pI hs15
      subst zs15
      refine wa_Vv (d9 := d - 1) [.int _, .int _, .int _, .int _] [] (sp_X4_combine G (d := d - 1) (by omega) σ _ _ _ _ (by ((try simp only [vp_in_iff, Int32.lt_iff_toInt_lt, Int32.le_iff_toInt_le, ← Int32.toInt_inj, Int32.reduceToInt, n_1, n_2, n_8, Int32.toNatClampNeg, Int64.lt_iff_toInt_lt, Int64.le_iff_toInt_le, ← Int64.toInt_inj, Int64.reduceToInt, Int32.toInt_toInt64, lg_cmp_ge, lg_cmp_le, lg_cmp_gt, lg_cmp_lt, lg_cmp_eq, Bool.false_eq_true, Bool.true_eq_false, reduceCtorEq, false_iff, true_iff, iff_true, iff_false, and_true, true_and, and_false, false_and, reduceIte, ite_true, ite_false, eq_self] at *)) <;> omega) (by ((try simp only [vp_in_iff, Int32.lt_iff_toInt_lt, Int32.le_iff_toInt_le, ← Int32.toInt_inj, Int32.reduceToInt, n_1, n_2, n_8, Int32.toNatClampNeg, Int64.lt_iff_toInt_lt, Int64.le_iff_toInt_le, ← Int64.toInt_inj, Int64.reduceToInt, Int32.toInt_toInt64, lg_cmp_ge, lg_cmp_le, lg_cmp_gt, lg_cmp_lt, lg_cmp_eq, Bool.false_eq_true, Bool.true_eq_false, reduceCtorEq, false_iff, true_iff, iff_true, iff_false, and_true, true_and, and_false, false_and, reduceIte, ite_true, ite_false, eq_self] at *)) <;> omega) (by ((try simp only [vp_in_iff, Int32.lt_iff_toInt_lt, Int32.le_iff_toInt_le, ← Int32.toInt_inj, Int32.reduceToInt, n_1, n_2, n_8, Int32.toNatClampNeg, Int64.lt_iff_toInt_lt, Int64.le_iff_toInt_le, ← Int64.toInt_inj, Int64.reduceToInt, Int32.toInt_toInt64, lg_cmp_ge, lg_cmp_le, lg_cmp_gt, lg_cmp_lt, lg_cmp_eq, Bool.false_eq_true, Bool.true_eq_false, reduceCtorEq, false_iff, true_iff, iff_true, iff_false, and_true, true_and, and_false, false_and, reduceIte, ite_true, ite_false, eq_self] at *)) <;> omega)) (rfl) rfl rfl (zr (by omega)) mk_X4_combine ly_25 ml_4_153 (Nat.le_of_ble_eq_true rfl) (fun s17 hs17 => ?_)
      obtain ⟨fs17, -⟩ := hs17
      have Fs17 : Fm [25, 26, 27] [] σ s17 := Fm.tr (Fm.rf [25, 26, 27] [] σ) (Fm.wd fs17 rfl rfl)
      refine wa_aload_n (i := 0) rfl rfl ?_
      refine wa_iload_n (i := 3) rfl rfl ?_
      refine wa_iload rfl ?_
      refine wa_Vv (d9 := d - 1) [.int _, .int _] [] (sp_X4_setTop G (d := d - 1) (by omega) s17 _ _) (rfl) rfl rfl (zr (by omega)) mk_X4_setTop ly_25 ml_4_160 (Nat.le_of_ble_eq_true rfl) (fun s19 hs19 => ?_)
      obtain ⟨fs19, -⟩ := hs19
      have Fs19 : Fm [25, 26, 27] [] σ s19 := Fm.tr Fs17 (Fm.wd fs19 rfl rfl)
      refine wa_goto o_X4_work_155 (by decide) ?_
      refine wa_return (st := []) rfl rfl ?_
      exact ⟨Fs19, trivial⟩
    ·
      by_cases h21 : q4 = 12
      · refine wa_lsw (by decide) (by rw [h21] <;> rfl) o_X4_work_94 (by decide) ?_
        refine wa_aload_n (i := 0) rfl rfl ?_
        refine wa_iload_n (i := 3) rfl rfl ?_
        refine wa_iload rfl ?_
        refine wa_Si (d9 := d - 1) [.int _, .int _] [.ref 25] (sp_X4_form G (d := d - 1) (by omega) σ _ _) (rfl) rfl rfl (zr (by omega)) mk_X4_form ml_4_95 (Nat.le_of_ble_eq_true rfl) (fun x23 s22 hs22 => ?_)
        obtain ⟨zs22, cx23_1, -⟩ := pI hs22
        subst zs22
        refine wa_iconst (v := (-1)) (by decide) ?_
        refine wa_Vv (d9 := d - 1) [.int _, .int _] [] (sp_X4_multiply G (d := d - 1) (by omega) σ _ _ (by ((try simp only [vp_in_iff, Int32.lt_iff_toInt_lt, Int32.le_iff_toInt_le, ← Int32.toInt_inj, Int32.reduceToInt, n_1, n_2, n_8, Int32.toNatClampNeg, Int64.lt_iff_toInt_lt, Int64.le_iff_toInt_le, ← Int64.toInt_inj, Int64.reduceToInt, Int32.toInt_toInt64, lg_cmp_ge, lg_cmp_le, lg_cmp_gt, lg_cmp_lt, lg_cmp_eq, Bool.false_eq_true, Bool.true_eq_false, reduceCtorEq, false_iff, true_iff, iff_true, iff_false, and_true, true_and, and_false, false_and, reduceIte, ite_true, ite_false, eq_self] at *)) <;> omega)) (rfl) rfl rfl (zr (by omega)) mk_X4_multiply ly_25 ml_4_150 (Nat.le_of_ble_eq_true rfl) (fun s24 hs24 => ?_)
        obtain ⟨fs24, -⟩ := hs24
        have Fs24 : Fm [25, 26, 27] [] σ s24 := Fm.tr (Fm.rf [25, 26, 27] [] σ) (Fm.wd fs24 rfl rfl)
        refine wa_goto o_X4_work_155 (by decide) ?_
        refine wa_return (st := []) rfl rfl ?_
        exact ⟨Fs24, trivial⟩
      ·
        by_cases h26 : q4 = 13
        · refine wa_lsw (by decide) (by rw [h26] <;> rfl) o_X4_work_80 (by decide) ?_
          refine wa_aload_n (i := 0) rfl rfl ?_
          refine wa_iload_n (i := 3) rfl rfl ?_
          refine wa_iload rfl ?_
          refine wa_Si (d9 := d - 1) [.int _, .int _] [.ref 25] (sp_X4_form G (d := d - 1) (by omega) σ _ _) (rfl) rfl rfl (zr (by omega)) mk_X4_form ml_4_95 (Nat.le_of_ble_eq_true rfl) (fun x28 s27 hs27 => ?_)
          obtain ⟨zs27, cx28_1, -⟩ := pI hs27
          subst zs27
          refine wa_iload_n (i := 2) rfl rfl ?_
          refine wa_Vv (d9 := d - 1) [.int _, .int _] [] (sp_X4_multiply G (d := d - 1) (by omega) σ _ _ (by ((try simp only [vp_in_iff, Int32.lt_iff_toInt_lt, Int32.le_iff_toInt_le, ← Int32.toInt_inj, Int32.reduceToInt, n_1, n_2, n_8, Int32.toNatClampNeg, Int64.lt_iff_toInt_lt, Int64.le_iff_toInt_le, ← Int64.toInt_inj, Int64.reduceToInt, Int32.toInt_toInt64, lg_cmp_ge, lg_cmp_le, lg_cmp_gt, lg_cmp_lt, lg_cmp_eq, Bool.false_eq_true, Bool.true_eq_false, reduceCtorEq, false_iff, true_iff, iff_true, iff_false, and_true, true_and, and_false, false_and, reduceIte, ite_true, ite_false, eq_self] at *)) <;> omega)) (rfl) rfl rfl (zr (by omega)) mk_X4_multiply ly_25 ml_4_150 (Nat.le_of_ble_eq_true rfl) (fun s29 hs29 => ?_)
          obtain ⟨fs29, -⟩ := hs29
          have Fs29 : Fm [25, 26, 27] [] σ s29 := Fm.tr (Fm.rf [25, 26, 27] [] σ) (Fm.wd fs29 rfl rfl)
          refine wa_goto o_X4_work_155 (by decide) ?_
          refine wa_return (st := []) rfl rfl ?_
          exact ⟨Fs29, trivial⟩
        ·
          by_cases h31 : q4 = 41
          · refine wa_lsw (by decide) (by rw [h31] <;> rfl) o_X4_work_60 (by decide) ?_
            refine wa_aload_n (i := 0) rfl rfl ?_
            refine wa_iload_n (i := 3) rfl rfl ?_
            refine wa_iload_n (i := 2) rfl rfl ?_
            refine wa_iconst (v := 0) (by decide) ?_
            refine wa_Vv (d9 := d - 1) [.int _, .int _, .int _] [] (sp_X4_pushForm G (d := d - 1) (by omega) σ _ _ _) (rfl) rfl rfl (zr (by omega)) mk_X4_pushForm ly_25 ml_4_169 (Nat.le_of_ble_eq_true rfl) (fun s32 hs32 => ?_)
            obtain ⟨fs32, -⟩ := hs32
            have Fs32 : Fm [25, 26, 27] [] σ s32 := Fm.tr (Fm.rf [25, 26, 27] [] σ) (Fm.wd fs32 rfl rfl)
            refine wa_goto o_X4_work_155 (by decide) ?_
            refine wa_return (st := []) rfl rfl ?_
            exact ⟨Fs32, trivial⟩
          ·
            refine wa_lsw (off := 135) (by decide) (by show Op.lookupswitch.offset [(2, 60), (11, 98), (12, 84), (13, 70), (41, 50)] 135 (q4).toInt = 135; rw [lv_osw (a := 2) h5 rfl, lv_osw (a := 11) h8 rfl, lv_osw (a := 12) h21 rfl, lv_osw (a := 13) h26 rfl, lv_osw (a := 41) h31 rfl] <;> rfl) o_X4_work_145 (by decide) ?_
            refine wa_aload_n (i := 0) rfl rfl ?_
            refine wa_iload_n (i := 3) rfl rfl ?_
            refine wa_iload rfl ?_
            refine wa_Si (d9 := d - 1) [.int _, .int _] [.ref 25] (sp_X4_form G (d := d - 1) (by omega) σ _ _) (rfl) rfl rfl (zr (by omega)) mk_X4_form ml_4_95 (Nat.le_of_ble_eq_true rfl) (fun x35 s34 hs34 => ?_)
            obtain ⟨zs34, cx35_1, -⟩ := pI hs34
            subst zs34
            refine wa_Vv (d9 := d - 1) [.int _] [] (sp_X4_check G (d := d - 1) (by omega) σ _ (by ((try simp only [vp_in_iff, Int32.lt_iff_toInt_lt, Int32.le_iff_toInt_le, ← Int32.toInt_inj, Int32.reduceToInt, n_1, n_2, n_8, Int32.toNatClampNeg, Int64.lt_iff_toInt_lt, Int64.le_iff_toInt_le, ← Int64.toInt_inj, Int64.reduceToInt, Int32.toInt_toInt64, lg_cmp_ge, lg_cmp_le, lg_cmp_gt, lg_cmp_lt, lg_cmp_eq, Bool.false_eq_true, Bool.true_eq_false, reduceCtorEq, false_iff, true_iff, iff_true, iff_false, and_true, true_and, and_false, false_and, reduceIte, ite_true, ite_false, eq_self] at *)) <;> omega)) (rfl) rfl rfl (zr (by omega)) mk_X4_check ly_25 ml_4_157 (Nat.le_of_ble_eq_true rfl) (fun s36 hs36 => ?_)
            obtain ⟨fs36, -⟩ := hs36
            have Fs36 : Fm [25, 26, 27] [] σ s36 := Fm.tr (Fm.rf [25, 26, 27] [] σ) (Fm.wd fs36 rfl rfl)
            refine wa_return (st := []) rfl rfl ?_
            exact ⟨Fs36, trivial⟩
set_option maxHeartbeats 4000000 in
theorem sp_X4_arePlain (G : kG9) {d : Nat} (hd : 2 ≤ d) (σ : St) (a0 : Int32) (a1 : Int32) (p1 : a1.toInt < 2147483647) : Ct G M_X4_arePlain d [.ref 25, .int a0, .int a1] σ (fun r σ' => ∃ x : Bool, r = some (.int (bI x)) ∧ σ = σ' ∧ True) := by
  refine wa_start (by decide) rfl (Nat.le_of_ble_eq_true rfl) (lv := [(0, .ref 25), (1, .int a0), (2, .int a1)]) rfl o_X4_arePlain_0 rfl ?_
  have ua0 := Int32.toInt_lt a0
  have wa0 := Int32.le_toInt a0
  have ua1 := Int32.toInt_lt a1
  have wa1 := Int32.le_toInt a1
  refine wa_iconst (v := 1) (by decide) ?_
  refine wa_istore_nD (lv' := [(3, .int (bI true)), (0, .ref 25), (1, .int a0), (2, .int a1)]) (i := 3) rfl (by decide) rfl ?_
  refine wa_iload_n (i := 1) rfl rfl ?_
  refine wa_istoreD (lv' := [(4, .int a0), (3, .int (bI true)), (0, .ref 25), (1, .int a0), (2, .int a1)]) (by decide) rfl ?_
  refine wa_pick [2, 4, 1, 0] rfl ?_
  have hi2 : ∀ (n9_5 : Nat) (l3 : Bool) (l4 : Int32), (True) → (2147483647 - l4.toInt).toNat = n9_5 → WA G M_X4_arePlain (ZM G M_X4_arePlain d (fun r σ' => ∃ x : Bool, r = some (.int (bI x)) ∧ σ = σ' ∧ True)) B_X4_arePlain_5 [(0, .ref 25), (2, .int a1), (3, .int (bI l3)), (4, .int l4)] [] σ := by
    intro n9_5
    induction n9_5 using Nat.strongRecOn with
    | _ n9_5 ih1 =>
      intro l3 l4  i9 m9_5
      have ul4 := Int32.toInt_lt l4
      have wl4 := Int32.le_toInt l4
      refine wa_iload rfl ?_
      refine wa_iload_n (i := 2) rfl rfl ?_
      refine wa_icmp_gt o_X4_arePlain_37 (by decide) (fun h3 => ?_) (fun h3 => ?_)
      · refine wa_iload_n (i := 3) rfl rfl ?_
        refine wa_zreturn l3 (rfl) rfl rfl ?_
        exact ⟨_, rfl, rfl, trivial⟩
      · refine wa_iload_n (i := 3) rfl rfl ?_
        refine wa_aload_n (i := 0) rfl rfl ?_
        refine wa_aload_n (i := 0) rfl rfl ?_
        refine wa_getr ck_4 fl_4_25 ly_25 rf_25_0 ?_
        refine wa_aload_n (i := 0) rfl rfl ?_
        refine wa_geti ck_4 fl_4_33 ly_25 ?_
        refine wa_iload rfl ?_
        refine wa_Vi (d9 := d - 1) [.int _, .int _] [.ref 25, .int (bI l3)] (sp_X2_step G (d := d - 1) (by omega) σ _ _) (rfl) rfl rfl (zr (by omega)) mk_X2_step ly_7 ml_4_43 (Nat.le_of_ble_eq_true rfl) (fun x5 s4 hs4 => ?_)
        obtain ⟨zs4, -⟩ := pI hs4
        subst zs4
        refine wa_Vi (d9 := d - 1) [.int _] [.int (bI l3)] (sp_X4_isPlain G (d := d - 1) (by omega) σ _) (rfl) rfl rfl (zr (by omega)) mk_X4_isPlain ly_25 ml_4_46 (Nat.le_of_ble_eq_true rfl) (fun x7 s6 hs6 => ?_)
        obtain ⟨bx7, ex7, zs6, -⟩ := pB hs6
        subst ex7
        subst zs6
        refine wa_iand ?_
        refine wa_rw (bI_and (a := l3) (b := bx7) rfl rfl) ?_
        refine wa_istore_nD (lv' := [(3, .int (bI (l3 && bx7))), (0, .ref 25), (2, .int a1), (4, .int l4)]) (i := 3) rfl (by decide) rfl ?_
        refine wa_iinc (v := (1)) (lv' := fun y8 => [(4, .int y8), (3, .int (bI (l3 && bx7))), (0, .ref 25), (2, .int a1)]) (by decide) rfl (by decide) (fun _ => rfl) (fun y8 hy8 => ?_)
        have ty8 := i_addT hy8.symm
        clear hy8
        refine wa_goto o_X4_arePlain_5 (by decide) ?_
        refine wa_pick [2, 3, 1, 0] rfl ?_
        exact ih1 _ (by ((try simp only [vp_in_iff, Int32.lt_iff_toInt_lt, Int32.le_iff_toInt_le, ← Int32.toInt_inj, Int32.reduceToInt, n_1, n_2, n_8, Int32.toNatClampNeg, Int64.lt_iff_toInt_lt, Int64.le_iff_toInt_le, ← Int64.toInt_inj, Int64.reduceToInt, Int32.toInt_toInt64, lg_cmp_ge, lg_cmp_le, lg_cmp_gt, lg_cmp_lt, lg_cmp_eq, Bool.false_eq_true, Bool.true_eq_false, reduceCtorEq, false_iff, true_iff, iff_true, iff_false, and_true, true_and, and_false, false_and, reduceIte, ite_true, ite_false, eq_self] at *)) <;> omega) _ _ trivial rfl
  exact hi2 _ _ _ trivial rfl
set_option maxHeartbeats 4000000 in
theorem sp_X4_takeNamed (G : kG9) {d : Nat} (hd : 1 ≤ d) (σ : St) (a0 : Int32) : Ct G M_X4_takeNamed d [.ref 25, .int a0] σ (fun r σ' => Fm [12, 13, 14, 25] [] σ σ' ∧ True) := by
  refine wa_start (by decide) rfl (Nat.le_of_ble_eq_true rfl) (lv := [(0, .ref 25), (1, .int a0)]) rfl o_X4_takeNamed_0 rfl ?_
  have ua0 := Int32.toInt_lt a0
  have wa0 := Int32.le_toInt a0
  refine wa_aload_n (i := 0) rfl rfl ?_
  refine wa_getr ck_4 fl_4_25 ly_25 rf_25_0 ?_
  refine wa_iload_n (i := 1) rfl rfl ?_
  refine wa_iconst (v := 4) (by decide) ?_
  refine wa_Vi (d9 := d - 1) [.int _, .int _] [] (sp_X2_fact G (d := d - 1) (by omega) σ _ _) (rfl) rfl rfl (zr (by omega)) mk_X2_fact ly_7 ml_4_39 (Nat.le_of_ble_eq_true rfl) (fun x2 s1 hs1 => ?_)
  obtain ⟨zs1, -⟩ := pI hs1
  subst zs1
  refine wa_istore_nD (lv' := [(2, .int x2), (0, .ref 25), (1, .int a0)]) (i := 2) rfl (by decide) rfl ?_
  refine wa_iconst (v := 0) (by decide) ?_
  refine wa_istore_nD (lv' := [(3, .int 0), (2, .int x2), (0, .ref 25), (1, .int a0)]) (i := 3) rfl (by decide) rfl ?_
  refine wa_pick [2, 3, 1, 0] rfl ?_
  have hi5 : ∀ (n9_12 : Nat) (l3 : Int32) (s3 : St), ((Fm [12, 13, 14, 25] [] σ s3) ∧ (gi s3 25 5 = gi σ 25 5) ∧ (gi s3 25 9 = gi σ 25 9) ∧ (0 ≤ l3.toInt) ∧ (True)) → (2147483647 - l3.toInt).toNat = n9_12 → WA G M_X4_takeNamed (ZM G M_X4_takeNamed d (fun r σ' => Fm [12, 13, 14, 25] [] σ σ' ∧ True)) B_X4_takeNamed_12 [(0, .ref 25), (1, .int a0), (2, .int x2), (3, .int l3)] [] s3 := by
    intro n9_12
    induction n9_12 using Nat.strongRecOn with
    | _ n9_12 ih4 =>
      intro l3 s3 i9 m9_12
      obtain ⟨Fs3, khi5_0, khi5_1, jhi5_0, -⟩ := i9
      have ul3 := Int32.toInt_lt l3
      have wl3 := Int32.le_toInt l3
      refine wa_iload_n (i := 3) rfl rfl ?_
      refine wa_iload_n (i := 2) rfl rfl ?_
      refine wa_icmp_ge o_X4_takeNamed_60 (by decide) (fun h6 => ?_) (fun h6 => ?_)
      · refine wa_aload_n (i := 0) rfl rfl ?_
        refine wa_dup rfl ?_
        refine wa_geti ck_4 fl_4_83 ly_25 ?_
        refine wa_rw (khi5_1) ?_
        refine wa_aload_n (i := 0) rfl rfl ?_
        refine wa_getr ck_4 fl_4_25 ly_25 rf_25_0 ?_
        refine wa_iload_n (i := 1) rfl rfl ?_
        refine wa_bipush (v := 6) (by decide) ?_
        refine wa_Vi (d9 := d - 1) [.int _, .int _] [.int (gi σ 25 9), .ref 25] (sp_X2_fact G (d := d - 1) (by omega) s3 _ _) (rfl) rfl rfl (zr (by omega)) mk_X2_fact ly_7 ml_4_39 (Nat.le_of_ble_eq_true rfl) (fun x8 s7 hs7 => ?_)
        obtain ⟨zs7, -⟩ := pI hs7
        subst zs7
        refine wa_ior ?_
        refine wa_top (fun v9 hv9 => ?_)
        clear hv9
        refine wa_puti ck_4 fl_4_83 ly_25 (fun s10 hs10 => ?_)
        have Fs10 : Fm [12, 13, 14, 25] [] σ s10 := by rw [hs10]; exact Fm.si Fs3 rfl
        refine wa_aload_n (i := 0) rfl rfl ?_
        refine wa_bipush (v := (-100)) (by decide) ?_
        refine wa_iload_n (i := 1) rfl rfl ?_
        refine wa_isub ?_
        refine wa_top (fun v11 hv11 => ?_)
        have tv11 := i_subT hv11
        clear hv11
        refine wa_Vv (d9 := d - 1) [.int _] [] (sp_X4_emit G (d := d - 1) (by omega) s10 _) (rfl) rfl rfl (zr (by omega)) mk_X4_emit ly_25 ml_4_76 (Nat.le_of_ble_eq_true rfl) (fun s12 hs12 => ?_)
        obtain ⟨fs12, -⟩ := hs12
        have Fs12 : Fm [12, 13, 14, 25] [] σ s12 := Fm.tr Fs10 (Fm.wd fs12 rfl rfl)
        refine wa_return (st := []) rfl rfl ?_
        exact ⟨Fs12, trivial⟩
      · have mh6 := nle_mx h6
        refine wa_aload_n (i := 0) rfl rfl ?_
        refine wa_dup rfl ?_
        refine wa_getz ck_4 fl_4_89 ly_25 ?_
        refine wa_aload_n (i := 0) rfl rfl ?_
        refine wa_getr ck_4 fl_4_25 ly_25 rf_25_0 ?_
        refine wa_aload_n (i := 0) rfl rfl ?_
        refine wa_geti ck_4 fl_4_33 ly_25 ?_
        refine wa_rw (khi5_0) ?_
        refine wa_aload_n (i := 0) rfl rfl ?_
        refine wa_getr ck_4 fl_4_25 ly_25 rf_25_0 ?_
        refine wa_iload_n (i := 1) rfl rfl ?_
        refine wa_iload_n (i := 3) rfl rfl ?_
        refine wa_Vi (d9 := d - 1) [.int _, .int _] [.int (gi σ 25 5), .ref 7, .int (bI (gb s3 25 8)), .ref 25] (sp_X2_atomOf G (d := d - 1) (by omega) s3 _ _) (rfl) rfl rfl (zr (by omega)) mk_X2_atomOf ly_7 ml_4_112 (Nat.le_of_ble_eq_true rfl) (fun x15 s14 hs14 => ?_)
        obtain ⟨zs14, -⟩ := pI hs14
        subst zs14
        refine wa_Vi (d9 := d - 1) [.int _, .int _] [.int (bI (gb s3 25 8)), .ref 25] (sp_X2_addAtom G (d := d - 1) (by omega) s3 _ _) (rfl) rfl rfl (zr (by omega)) mk_X2_addAtom ly_7 ml_4_115 (Nat.le_of_ble_eq_true rfl) (fun x17 s16 hs16 => ?_)
        obtain ⟨bx17, ex17, fs16, -⟩ := pB hs16
        subst ex17
        have Fs16 : Fm [12, 13, 14, 25] [] σ s16 := Fm.tr Fs3 (Fm.ofSm fs16 rfl)
        refine wa_if_ne o_X4_takeNamed_49 (by decide) (fun h18 => ?_) (fun h18 => ?_)
        · replace h18 := bI_t (b := bx17) (rfl) h18
          refine wa_iconst (v := 0) (by decide) ?_
          refine wa_ior ?_
          refine wa_rw (bI_or (a := (gb s3 25 8)) (b := false) rfl rfl) ?_
          refine wa_putz ((gb s3 25 8) || false) (rfl) ck_4 fl_4_89 ly_25 (fun s19 hs19 => ?_)
          have Fs19 : Fm [12, 13, 14, 25] [] σ s19 := by rw [hs19]; exact Fm.sb Fs16 rfl
          refine wa_iinc (v := (1)) (lv' := fun y20 => [(3, .int y20), (0, .ref 25), (1, .int a0), (2, .int x2)]) (by decide) rfl (by decide) (fun _ => rfl) (fun y20 hy20 => ?_)
          have ty20 := i_addT hy20.symm
          clear hy20
          refine wa_goto o_X4_takeNamed_12 (by decide) ?_
          refine wa_pick [1, 2, 3, 0] rfl ?_
          exact ih4 _ (by ((try simp only [vp_in_iff, Int32.lt_iff_toInt_lt, Int32.le_iff_toInt_le, ← Int32.toInt_inj, Int32.reduceToInt, n_1, n_2, n_8, Int32.toNatClampNeg, Int64.lt_iff_toInt_lt, Int64.le_iff_toInt_le, ← Int64.toInt_inj, Int64.reduceToInt, Int32.toInt_toInt64, lg_cmp_ge, lg_cmp_le, lg_cmp_gt, lg_cmp_lt, lg_cmp_eq, Bool.false_eq_true, Bool.true_eq_false, reduceCtorEq, false_iff, true_iff, iff_true, iff_false, and_true, true_and, and_false, false_and, reduceIte, ite_true, ite_false, eq_self] at *)) <;> omega) _ _ ⟨Fs19, ((nx_gi_sb hs19).trans ((Sm.gi fs16 5 (Or.inr (by decide))).trans (khi5_0))), ((nx_gi_sb hs19).trans ((Sm.gi fs16 9 (Or.inr (by decide))).trans (khi5_1))), (by ((try simp only [vp_in_iff, Int32.lt_iff_toInt_lt, Int32.le_iff_toInt_le, ← Int32.toInt_inj, Int32.reduceToInt, n_1, n_2, n_8, Int32.toNatClampNeg, Int64.lt_iff_toInt_lt, Int64.le_iff_toInt_le, ← Int64.toInt_inj, Int64.reduceToInt, Int32.toInt_toInt64, lg_cmp_ge, lg_cmp_le, lg_cmp_gt, lg_cmp_lt, lg_cmp_eq, Bool.false_eq_true, Bool.true_eq_false, reduceCtorEq, false_iff, true_iff, iff_true, iff_false, and_true, true_and, and_false, false_and, reduceIte, ite_true, ite_false, eq_self] at *)) <;> omega), trivial⟩ rfl
        · replace h18 := bI_f (b := bx17) (rfl) h18
          refine wa_iconst (v := 1) (by decide) ?_
          refine wa_goto o_X4_takeNamed_50 (by decide) ?_
          refine wa_ior ?_
          refine wa_rw (bI_or (a := (gb s3 25 8)) (b := true) rfl rfl) ?_
          refine wa_putz ((gb s3 25 8) || true) (rfl) ck_4 fl_4_89 ly_25 (fun s21 hs21 => ?_)
          have Fs21 : Fm [12, 13, 14, 25] [] σ s21 := by rw [hs21]; exact Fm.sb Fs16 rfl
          refine wa_iinc (v := (1)) (lv' := fun y22 => [(3, .int y22), (0, .ref 25), (1, .int a0), (2, .int x2)]) (by decide) rfl (by decide) (fun _ => rfl) (fun y22 hy22 => ?_)
          have ty22 := i_addT hy22.symm
          clear hy22
          refine wa_goto o_X4_takeNamed_12 (by decide) ?_
          refine wa_pick [1, 2, 3, 0] rfl ?_
          exact ih4 _ (by ((try simp only [vp_in_iff, Int32.lt_iff_toInt_lt, Int32.le_iff_toInt_le, ← Int32.toInt_inj, Int32.reduceToInt, n_1, n_2, n_8, Int32.toNatClampNeg, Int64.lt_iff_toInt_lt, Int64.le_iff_toInt_le, ← Int64.toInt_inj, Int64.reduceToInt, Int32.toInt_toInt64, lg_cmp_ge, lg_cmp_le, lg_cmp_gt, lg_cmp_lt, lg_cmp_eq, Bool.false_eq_true, Bool.true_eq_false, reduceCtorEq, false_iff, true_iff, iff_true, iff_false, and_true, true_and, and_false, false_and, reduceIte, ite_true, ite_false, eq_self] at *)) <;> omega) _ _ ⟨Fs21, ((nx_gi_sb hs21).trans ((Sm.gi fs16 5 (Or.inr (by decide))).trans (khi5_0))), ((nx_gi_sb hs21).trans ((Sm.gi fs16 9 (Or.inr (by decide))).trans (khi5_1))), (by ((try simp only [vp_in_iff, Int32.lt_iff_toInt_lt, Int32.le_iff_toInt_le, ← Int32.toInt_inj, Int32.reduceToInt, n_1, n_2, n_8, Int32.toNatClampNeg, Int64.lt_iff_toInt_lt, Int64.le_iff_toInt_le, ← Int64.toInt_inj, Int64.reduceToInt, Int32.toInt_toInt64, lg_cmp_ge, lg_cmp_le, lg_cmp_gt, lg_cmp_lt, lg_cmp_eq, Bool.false_eq_true, Bool.true_eq_false, reduceCtorEq, false_iff, true_iff, iff_true, iff_false, and_true, true_and, and_false, false_and, reduceIte, ite_true, ite_false, eq_self] at *)) <;> omega), trivial⟩ rfl
  exact hi5 _ _ _ ⟨(Fm.rf [12, 13, 14, 25] [] σ), (rfl), (rfl), (by ((try simp only [vp_in_iff, Int32.lt_iff_toInt_lt, Int32.le_iff_toInt_le, ← Int32.toInt_inj, Int32.reduceToInt, n_1, n_2, n_8, Int32.toNatClampNeg, Int64.lt_iff_toInt_lt, Int64.le_iff_toInt_le, ← Int64.toInt_inj, Int64.reduceToInt, Int32.toInt_toInt64, lg_cmp_ge, lg_cmp_le, lg_cmp_gt, lg_cmp_lt, lg_cmp_eq, Bool.false_eq_true, Bool.true_eq_false, reduceCtorEq, false_iff, true_iff, iff_true, iff_false, and_true, true_and, and_false, false_and, reduceIte, ite_true, ite_false, eq_self] at *)) <;> omega), trivial⟩ rfl
set_option maxHeartbeats 4000000 in
theorem sp_X4_makeGoal (G : kG9) {d : Nat} (hd : 3 ≤ d) (σ : St) : Ct G M_X4_makeGoal d [.ref 25] σ (fun r σ' => ∃ x : Bool, r = some (.int (bI x)) ∧ Fm [13, 25, 26, 27, 29] [] σ σ' ∧ True) := by
  refine wa_start (by decide) rfl (Nat.le_of_ble_eq_true rfl) (lv := [(0, .ref 25)]) rfl o_X4_makeGoal_0 rfl ?_
  refine wa_aload_n (i := 0) rfl rfl ?_
  refine wa_bipush (v := 25) (by decide) ?_
  refine wa_Vv (d9 := d - 1) [.int _] [] (sp_X4_begin G (d := d - 1) (by omega) σ _) (rfl) rfl rfl (zr (by omega)) mk_X4_begin ly_25 ml_4_29 (Nat.le_of_ble_eq_true rfl) (fun s1 hs1 => ?_)
  obtain ⟨fs1, -⟩ := hs1
  have Fs1 : Fm [13, 25, 26, 27, 29] [] σ s1 := Fm.tr (Fm.rf [13, 25, 26, 27, 29] [] σ) (Fm.wd fs1 rfl rfl)
  refine wa_aload_n (i := 0) rfl rfl ?_
  refine wa_getr ck_4 fl_4_25 ly_25 rf_25_0 ?_
  refine wa_bipush (v := 25) (by decide) ?_
  refine wa_iconst (v := 1) (by decide) ?_
  refine wa_Vi (d9 := d - 1) [.int _, .int _] [] (sp_X2_fact G (d := d - 1) (by omega) s1 _ _) (rfl) rfl rfl (zr (by omega)) mk_X2_fact ly_7 ml_4_39 (Nat.le_of_ble_eq_true rfl) (fun x4 s3 hs3 => ?_)
  obtain ⟨zs3, -⟩ := pI hs3
  subst zs3
  refine wa_istore_nD (lv' := [(1, .int x4), (0, .ref 25)]) (i := 1) rfl (by decide) rfl ?_
  refine wa_iconst (v := 0) (by decide) ?_
  refine wa_istore_nD (lv' := [(2, .int 0), (1, .int x4), (0, .ref 25)]) (i := 2) rfl (by decide) rfl ?_
  refine wa_pick [2, 1, 0] rfl ?_
  have hi7 : ∀ (n9_19 : Nat) (l2 : Int32) (s5 : St), ((Fm [13, 25, 26, 27, 29] [] σ s5) ∧ (0 ≤ l2.toInt) ∧ (True)) → (2147483647 - l2.toInt).toNat = n9_19 → WA G M_X4_makeGoal (ZM G M_X4_makeGoal d (fun r σ' => ∃ x : Bool, r = some (.int (bI x)) ∧ Fm [13, 25, 26, 27, 29] [] σ σ' ∧ True)) B_X4_makeGoal_19 [(0, .ref 25), (1, .int x4), (2, .int l2)] [] s5 := by
    intro n9_19
    induction n9_19 using Nat.strongRecOn with
    | _ n9_19 ih6 =>
      intro l2 s5 i9 m9_19
      obtain ⟨Fs5, jhi7_0, -⟩ := i9
      have ul2 := Int32.toInt_lt l2
      have wl2 := Int32.le_toInt l2
      refine wa_iload_n (i := 2) rfl rfl ?_
      refine wa_iload_n (i := 1) rfl rfl ?_
      refine wa_icmp_ge o_X4_makeGoal_61 (by decide) (fun h8 => ?_) (fun h8 => ?_)
      · refine wa_iconst (v := 0) (by decide) ?_
        refine wa_istore_nD (lv' := [(2, .int 0), (0, .ref 25), (1, .int x4)]) (i := 2) rfl (by decide) rfl ?_
        refine wa_pick [1, 0] rfl ?_
        have hi11 : ∀ (n9_63 : Nat) (l2 : Int32) (s9 : St), ((Fm [13, 25, 26, 27, 29] [] σ s9) ∧ (gb s9 25 7 = gb s5 25 7) ∧ (0 ≤ l2.toInt) ∧ (True)) → (2147483647 - l2.toInt).toNat = n9_63 → WA G M_X4_makeGoal (ZM G M_X4_makeGoal d (fun r σ' => ∃ x : Bool, r = some (.int (bI x)) ∧ Fm [13, 25, 26, 27, 29] [] σ σ' ∧ True)) B_X4_makeGoal_63 [(0, .ref 25), (2, .int l2)] [] s9 := by
          intro n9_63
          induction n9_63 using Nat.strongRecOn with
          | _ n9_63 ih10 =>
            intro l2 s9 i9 m9_63
            obtain ⟨Fs9, khi11_0, jhi11_0, -⟩ := i9
            have ul2 := Int32.toInt_lt l2
            have wl2 := Int32.le_toInt l2
            refine wa_iload_n (i := 2) rfl rfl ?_
            refine wa_iconst (v := 4) (by decide) ?_
            refine wa_icmp_gt o_X4_makeGoal_92 (by decide) (fun h12 => ?_) (fun h12 => ?_)
            · refine wa_aload_n (i := 0) rfl rfl ?_
              refine wa_getz ck_4 fl_4_61 ly_25 ?_
              refine wa_rw (congrArg bI (khi11_0)) ?_
              refine wa_if_ne o_X4_makeGoal_103 (by decide) (fun h13 => ?_) (fun h13 => ?_)
              · replace h13 := bI_t (b := (gb s5 25 7)) (rfl) h13
                refine wa_iconst (v := 0) (by decide) ?_
                refine wa_zreturn false (rfl) rfl rfl ?_
                exact ⟨_, rfl, Fs9, trivial⟩
              · replace h13 := bI_f (b := (gb s5 25 7)) (rfl) h13
                refine wa_iconst (v := 1) (by decide) ?_
                refine wa_goto o_X4_makeGoal_104 (by decide) ?_
                refine wa_zreturn true (rfl) rfl rfl ?_
                exact ⟨_, rfl, Fs9, trivial⟩
            · refine wa_aload_n (i := 0) rfl rfl ?_
              refine wa_getr ck_4 fl_4_22 ly_25 rf_25_4 ?_
              refine wa_iload_n (i := 2) rfl rfl ?_
              refine wa_aload_n (i := 0) rfl rfl ?_
              refine wa_getr ck_4 fl_4_11 ly_25 rf_25_1 ?_
              refine wa_iconst (v := 0) (by decide) ?_
              refine wa_iconst (v := 0) (by decide) ?_
              refine wa_Si (d9 := d - 1) [.int _, .int _] [.ref 26, .int l2, .ref 29] (sp_X4_form G (d := d - 1) (by omega) s9 _ _) (rfl) rfl rfl (zr (by omega)) mk_X4_form ml_4_95 (Nat.le_of_ble_eq_true rfl) (fun x15 s14 hs14 => ?_)
              obtain ⟨zs14, cx15_1, -⟩ := pI hs14
              subst zs14
              refine wa_iload_n (i := 2) rfl rfl ?_
              refine wa_iadd ?_
              refine wa_top (fun v16 hv16 => ?_)
              have tv16 := i_addT hv16
              clear hv16
              refine wa_lald ly_26 (by ((try simp only [vp_in_iff, Int32.lt_iff_toInt_lt, Int32.le_iff_toInt_le, ← Int32.toInt_inj, Int32.reduceToInt, n_1, n_2, n_8, Int32.toNatClampNeg, Int64.lt_iff_toInt_lt, Int64.le_iff_toInt_le, ← Int64.toInt_inj, Int64.reduceToInt, Int32.toInt_toInt64, lg_cmp_ge, lg_cmp_le, lg_cmp_gt, lg_cmp_lt, lg_cmp_eq, Bool.false_eq_true, Bool.true_eq_false, reduceCtorEq, false_iff, true_iff, iff_true, iff_false, and_true, true_and, and_false, false_and, reduceIte, ite_true, ite_false, eq_self] at *)) <;> omega) ?_
              refine wa_last ly_29 (by ((try simp only [vp_in_iff, Int32.lt_iff_toInt_lt, Int32.le_iff_toInt_le, ← Int32.toInt_inj, Int32.reduceToInt, n_1, n_2, n_8, Int32.toNatClampNeg, Int64.lt_iff_toInt_lt, Int64.le_iff_toInt_le, ← Int64.toInt_inj, Int64.reduceToInt, Int32.toInt_toInt64, lg_cmp_ge, lg_cmp_le, lg_cmp_gt, lg_cmp_lt, lg_cmp_eq, Bool.false_eq_true, Bool.true_eq_false, reduceCtorEq, false_iff, true_iff, iff_true, iff_false, and_true, true_and, and_false, false_and, reduceIte, ite_true, ite_false, eq_self] at *)) <;> omega) (fun s17 hs17 => ?_)
              have Fs17 : Fm [13, 25, 26, 27, 29] [] σ s17 := by rw [hs17]; exact Fm.sl Fs9 rfl
              refine wa_iinc (v := (1)) (lv' := fun y18 => [(2, .int y18), (0, .ref 25)]) (by decide) rfl (by decide) (fun _ => rfl) (fun y18 hy18 => ?_)
              have ty18 := i_addT hy18.symm
              clear hy18
              refine wa_goto o_X4_makeGoal_63 (by decide) ?_
              refine wa_pick [1, 0] rfl ?_
              exact ih10 _ (by ((try simp only [vp_in_iff, Int32.lt_iff_toInt_lt, Int32.le_iff_toInt_le, ← Int32.toInt_inj, Int32.reduceToInt, n_1, n_2, n_8, Int32.toNatClampNeg, Int64.lt_iff_toInt_lt, Int64.le_iff_toInt_le, ← Int64.toInt_inj, Int64.reduceToInt, Int32.toInt_toInt64, lg_cmp_ge, lg_cmp_le, lg_cmp_gt, lg_cmp_lt, lg_cmp_eq, Bool.false_eq_true, Bool.true_eq_false, reduceCtorEq, false_iff, true_iff, iff_true, iff_false, and_true, true_and, and_false, false_and, reduceIte, ite_true, ite_false, eq_self] at *)) <;> omega) _ _ ⟨Fs17, ((nx_gb_sl hs17).trans (khi11_0)), (by ((try simp only [vp_in_iff, Int32.lt_iff_toInt_lt, Int32.le_iff_toInt_le, ← Int32.toInt_inj, Int32.reduceToInt, n_1, n_2, n_8, Int32.toNatClampNeg, Int64.lt_iff_toInt_lt, Int64.le_iff_toInt_le, ← Int64.toInt_inj, Int64.reduceToInt, Int32.toInt_toInt64, lg_cmp_ge, lg_cmp_le, lg_cmp_gt, lg_cmp_lt, lg_cmp_eq, Bool.false_eq_true, Bool.true_eq_false, reduceCtorEq, false_iff, true_iff, iff_true, iff_false, and_true, true_and, and_false, false_and, reduceIte, ite_true, ite_false, eq_self] at *)) <;> omega), trivial⟩ rfl
        exact hi11 _ _ _ ⟨Fs5, (rfl), (by ((try simp only [vp_in_iff, Int32.lt_iff_toInt_lt, Int32.le_iff_toInt_le, ← Int32.toInt_inj, Int32.reduceToInt, n_1, n_2, n_8, Int32.toNatClampNeg, Int64.lt_iff_toInt_lt, Int64.le_iff_toInt_le, ← Int64.toInt_inj, Int64.reduceToInt, Int32.toInt_toInt64, lg_cmp_ge, lg_cmp_le, lg_cmp_gt, lg_cmp_lt, lg_cmp_eq, Bool.false_eq_true, Bool.true_eq_false, reduceCtorEq, false_iff, true_iff, iff_true, iff_false, and_true, true_and, and_false, false_and, reduceIte, ite_true, ite_false, eq_self] at *)) <;> omega), trivial⟩ rfl
      · have mh8 := nle_mx h8
        refine wa_aload_n (i := 0) rfl rfl ?_
        refine wa_getz ck_4 fl_4_61 ly_25 ?_
        refine wa_if_ne o_X4_makeGoal_61 (by decide) (fun h19 => ?_) (fun h19 => ?_)
        · replace h19 := bI_t (b := (gb s5 25 7)) (rfl) h19
          refine wa_iconst (v := 0) (by decide) ?_
          refine wa_istore_nD (lv' := [(2, .int 0), (0, .ref 25), (1, .int x4)]) (i := 2) rfl (by decide) rfl ?_
          refine wa_pick [1, 0] rfl ?_
          have hi22 : ∀ (n9_63 : Nat) (l2 : Int32) (s20 : St), ((Fm [13, 25, 26, 27, 29] [] σ s20) ∧ (gb s20 25 7 = gb s5 25 7) ∧ (0 ≤ l2.toInt) ∧ (True)) → (2147483647 - l2.toInt).toNat = n9_63 → WA G M_X4_makeGoal (ZM G M_X4_makeGoal d (fun r σ' => ∃ x : Bool, r = some (.int (bI x)) ∧ Fm [13, 25, 26, 27, 29] [] σ σ' ∧ True)) B_X4_makeGoal_63 [(0, .ref 25), (2, .int l2)] [] s20 := by
            intro n9_63
            induction n9_63 using Nat.strongRecOn with
            | _ n9_63 ih21 =>
              intro l2 s20 i9 m9_63
              obtain ⟨Fs20, khi22_0, jhi22_0, -⟩ := i9
              have ul2 := Int32.toInt_lt l2
              have wl2 := Int32.le_toInt l2
              refine wa_iload_n (i := 2) rfl rfl ?_
              refine wa_iconst (v := 4) (by decide) ?_
              refine wa_icmp_gt o_X4_makeGoal_92 (by decide) (fun h23 => ?_) (fun h23 => ?_)
              · refine wa_aload_n (i := 0) rfl rfl ?_
                refine wa_getz ck_4 fl_4_61 ly_25 ?_
                refine wa_rw (congrArg bI (khi22_0)) ?_
                refine wa_if_ne o_X4_makeGoal_103 (by decide) (fun h24 => ?_) (fun h24 => ?_)
                · replace h24 := bI_t (b := (gb s5 25 7)) (rfl) h24
                  refine wa_iconst (v := 0) (by decide) ?_
                  refine wa_zreturn false (rfl) rfl rfl ?_
                  exact ⟨_, rfl, Fs20, trivial⟩
                · replace h24 := bI_f (b := (gb s5 25 7)) (rfl) h24
                  refine wa_iconst (v := 1) (by decide) ?_
                  refine wa_goto o_X4_makeGoal_104 (by decide) ?_
                  refine wa_zreturn true (rfl) rfl rfl ?_
                  exact ⟨_, rfl, Fs20, trivial⟩
              · refine wa_aload_n (i := 0) rfl rfl ?_
                refine wa_getr ck_4 fl_4_22 ly_25 rf_25_4 ?_
                refine wa_iload_n (i := 2) rfl rfl ?_
                refine wa_aload_n (i := 0) rfl rfl ?_
                refine wa_getr ck_4 fl_4_11 ly_25 rf_25_1 ?_
                refine wa_iconst (v := 0) (by decide) ?_
                refine wa_iconst (v := 0) (by decide) ?_
                refine wa_Si (d9 := d - 1) [.int _, .int _] [.ref 26, .int l2, .ref 29] (sp_X4_form G (d := d - 1) (by omega) s20 _ _) (rfl) rfl rfl (zr (by omega)) mk_X4_form ml_4_95 (Nat.le_of_ble_eq_true rfl) (fun x26 s25 hs25 => ?_)
                obtain ⟨zs25, cx26_1, -⟩ := pI hs25
                subst zs25
                refine wa_iload_n (i := 2) rfl rfl ?_
                refine wa_iadd ?_
                refine wa_top (fun v27 hv27 => ?_)
                have tv27 := i_addT hv27
                clear hv27
                refine wa_lald ly_26 (by ((try simp only [vp_in_iff, Int32.lt_iff_toInt_lt, Int32.le_iff_toInt_le, ← Int32.toInt_inj, Int32.reduceToInt, n_1, n_2, n_8, Int32.toNatClampNeg, Int64.lt_iff_toInt_lt, Int64.le_iff_toInt_le, ← Int64.toInt_inj, Int64.reduceToInt, Int32.toInt_toInt64, lg_cmp_ge, lg_cmp_le, lg_cmp_gt, lg_cmp_lt, lg_cmp_eq, Bool.false_eq_true, Bool.true_eq_false, reduceCtorEq, false_iff, true_iff, iff_true, iff_false, and_true, true_and, and_false, false_and, reduceIte, ite_true, ite_false, eq_self] at *)) <;> omega) ?_
                refine wa_last ly_29 (by ((try simp only [vp_in_iff, Int32.lt_iff_toInt_lt, Int32.le_iff_toInt_le, ← Int32.toInt_inj, Int32.reduceToInt, n_1, n_2, n_8, Int32.toNatClampNeg, Int64.lt_iff_toInt_lt, Int64.le_iff_toInt_le, ← Int64.toInt_inj, Int64.reduceToInt, Int32.toInt_toInt64, lg_cmp_ge, lg_cmp_le, lg_cmp_gt, lg_cmp_lt, lg_cmp_eq, Bool.false_eq_true, Bool.true_eq_false, reduceCtorEq, false_iff, true_iff, iff_true, iff_false, and_true, true_and, and_false, false_and, reduceIte, ite_true, ite_false, eq_self] at *)) <;> omega) (fun s28 hs28 => ?_)
                have Fs28 : Fm [13, 25, 26, 27, 29] [] σ s28 := by rw [hs28]; exact Fm.sl Fs20 rfl
                refine wa_iinc (v := (1)) (lv' := fun y29 => [(2, .int y29), (0, .ref 25)]) (by decide) rfl (by decide) (fun _ => rfl) (fun y29 hy29 => ?_)
                have ty29 := i_addT hy29.symm
                clear hy29
                refine wa_goto o_X4_makeGoal_63 (by decide) ?_
                refine wa_pick [1, 0] rfl ?_
                exact ih21 _ (by ((try simp only [vp_in_iff, Int32.lt_iff_toInt_lt, Int32.le_iff_toInt_le, ← Int32.toInt_inj, Int32.reduceToInt, n_1, n_2, n_8, Int32.toNatClampNeg, Int64.lt_iff_toInt_lt, Int64.le_iff_toInt_le, ← Int64.toInt_inj, Int64.reduceToInt, Int32.toInt_toInt64, lg_cmp_ge, lg_cmp_le, lg_cmp_gt, lg_cmp_lt, lg_cmp_eq, Bool.false_eq_true, Bool.true_eq_false, reduceCtorEq, false_iff, true_iff, iff_true, iff_false, and_true, true_and, and_false, false_and, reduceIte, ite_true, ite_false, eq_self] at *)) <;> omega) _ _ ⟨Fs28, ((nx_gb_sl hs28).trans (khi22_0)), (by ((try simp only [vp_in_iff, Int32.lt_iff_toInt_lt, Int32.le_iff_toInt_le, ← Int32.toInt_inj, Int32.reduceToInt, n_1, n_2, n_8, Int32.toNatClampNeg, Int64.lt_iff_toInt_lt, Int64.le_iff_toInt_le, ← Int64.toInt_inj, Int64.reduceToInt, Int32.toInt_toInt64, lg_cmp_ge, lg_cmp_le, lg_cmp_gt, lg_cmp_lt, lg_cmp_eq, Bool.false_eq_true, Bool.true_eq_false, reduceCtorEq, false_iff, true_iff, iff_true, iff_false, and_true, true_and, and_false, false_and, reduceIte, ite_true, ite_false, eq_self] at *)) <;> omega), trivial⟩ rfl
          exact hi22 _ _ _ ⟨Fs5, (rfl), (by ((try simp only [vp_in_iff, Int32.lt_iff_toInt_lt, Int32.le_iff_toInt_le, ← Int32.toInt_inj, Int32.reduceToInt, n_1, n_2, n_8, Int32.toNatClampNeg, Int64.lt_iff_toInt_lt, Int64.le_iff_toInt_le, ← Int64.toInt_inj, Int64.reduceToInt, Int32.toInt_toInt64, lg_cmp_ge, lg_cmp_le, lg_cmp_gt, lg_cmp_lt, lg_cmp_eq, Bool.false_eq_true, Bool.true_eq_false, reduceCtorEq, false_iff, true_iff, iff_true, iff_false, and_true, true_and, and_false, false_and, reduceIte, ite_true, ite_false, eq_self] at *)) <;> omega), trivial⟩ rfl
        · replace h19 := bI_f (b := (gb s5 25 7)) (rfl) h19
          refine wa_aload_n (i := 0) rfl rfl ?_
          refine wa_getr ck_4 fl_4_25 ly_25 rf_25_0 ?_
          refine wa_bipush (v := 25) (by decide) ?_
          refine wa_iload_n (i := 2) rfl rfl ?_
          refine wa_Vi (d9 := d - 1) [.int _, .int _] [] (sp_X2_step G (d := d - 1) (by omega) s5 _ _) (rfl) rfl rfl (zr (by omega)) mk_X2_step ly_7 ml_4_43 (Nat.le_of_ble_eq_true rfl) (fun x31 s30 hs30 => ?_)
          obtain ⟨zs30, -⟩ := pI hs30
          subst zs30
          refine wa_istore_nD (lv' := [(3, .int x31), (0, .ref 25), (1, .int x4), (2, .int l2)]) (i := 3) rfl (by decide) rfl ?_
          refine wa_aload_n (i := 0) rfl rfl ?_
          refine wa_iload_n (i := 3) rfl rfl ?_
          refine wa_bipush (v := 63) (by decide) ?_
          refine wa_iand ?_
          refine wa_top (fun v32 hv32 => ?_)
          have tv32 := i_andT hv32
          clear hv32
          refine wa_iload_n (i := 3) rfl rfl ?_
          refine wa_bipush (v := 6) (by decide) ?_
          refine wa_ishr ?_
          refine wa_top (fun v33 hv33 => ?_)
          clear hv33
          refine wa_iconst (v := 0) (by decide) ?_
          refine wa_Vv (d9 := d - 1) [.int _, .int _, .int _] [] (sp_X4_work G (d := d - 1) (by omega) s5 _ _ _) (rfl) rfl rfl (zr (by omega)) mk_X4_work ly_25 ml_4_92 (Nat.le_of_ble_eq_true rfl) (fun s34 hs34 => ?_)
          obtain ⟨fs34, -⟩ := hs34
          have Fs34 : Fm [13, 25, 26, 27, 29] [] σ s34 := Fm.tr Fs5 (Fm.wd fs34 rfl rfl)
          refine wa_iinc (v := (1)) (lv' := fun y36 => [(2, .int y36), (3, .int x31), (0, .ref 25), (1, .int x4)]) (by decide) rfl (by decide) (fun _ => rfl) (fun y36 hy36 => ?_)
          have ty36 := i_addT hy36.symm
          clear hy36
          refine wa_goto o_X4_makeGoal_19 (by decide) ?_
          refine wa_pick [2, 3, 0] rfl ?_
          exact ih6 _ (by ((try simp only [vp_in_iff, Int32.lt_iff_toInt_lt, Int32.le_iff_toInt_le, ← Int32.toInt_inj, Int32.reduceToInt, n_1, n_2, n_8, Int32.toNatClampNeg, Int64.lt_iff_toInt_lt, Int64.le_iff_toInt_le, ← Int64.toInt_inj, Int64.reduceToInt, Int32.toInt_toInt64, lg_cmp_ge, lg_cmp_le, lg_cmp_gt, lg_cmp_lt, lg_cmp_eq, Bool.false_eq_true, Bool.true_eq_false, reduceCtorEq, false_iff, true_iff, iff_true, iff_false, and_true, true_and, and_false, false_and, reduceIte, ite_true, ite_false, eq_self] at *)) <;> omega) _ _ ⟨Fs34, (by ((try simp only [vp_in_iff, Int32.lt_iff_toInt_lt, Int32.le_iff_toInt_le, ← Int32.toInt_inj, Int32.reduceToInt, n_1, n_2, n_8, Int32.toNatClampNeg, Int64.lt_iff_toInt_lt, Int64.le_iff_toInt_le, ← Int64.toInt_inj, Int64.reduceToInt, Int32.toInt_toInt64, lg_cmp_ge, lg_cmp_le, lg_cmp_gt, lg_cmp_lt, lg_cmp_eq, Bool.false_eq_true, Bool.true_eq_false, reduceCtorEq, false_iff, true_iff, iff_true, iff_false, and_true, true_and, and_false, false_and, reduceIte, ite_true, ite_false, eq_self] at *)) <;> omega), trivial⟩ rfl
  exact hi7 _ _ _ ⟨Fs1, (by ((try simp only [vp_in_iff, Int32.lt_iff_toInt_lt, Int32.le_iff_toInt_le, ← Int32.toInt_inj, Int32.reduceToInt, n_1, n_2, n_8, Int32.toNatClampNeg, Int64.lt_iff_toInt_lt, Int64.le_iff_toInt_le, ← Int64.toInt_inj, Int64.reduceToInt, Int32.toInt_toInt64, lg_cmp_ge, lg_cmp_le, lg_cmp_gt, lg_cmp_lt, lg_cmp_eq, Bool.false_eq_true, Bool.true_eq_false, reduceCtorEq, false_iff, true_iff, iff_true, iff_false, and_true, true_and, and_false, false_and, reduceIte, ite_true, ite_false, eq_self] at *)) <;> omega), trivial⟩ rfl
set_option maxHeartbeats 4000000 in
theorem sp_X4_goalSizes (G : kG9) {d : Nat} (hd : 0 ≤ d) (σ : St) : Ct G M_X4_goalSizes d [.ref 25] σ (fun r σ' => ∃ x : Int64, r = some (.long x) ∧ σ = σ' ∧ True) := by
  refine wa_start (by decide) rfl (Nat.le_of_ble_eq_true rfl) (lv := [(0, .ref 25)]) rfl o_X4_goalSizes_0 rfl ?_
  refine wa_lconst (v := 0) (by decide) ?_
  refine wa_lstore_nD (lv' := [(1, .long 0), (0, .ref 25)]) (i := 1) rfl (by decide) rfl ?_
  refine wa_iconst (v := 0) (by decide) ?_
  refine wa_istore_nD (lv' := [(3, .int 0), (1, .long 0), (0, .ref 25)]) (i := 3) rfl (by decide) rfl ?_
  refine wa_pick [2, 1, 0] rfl ?_
  have hi2 : ∀ (n9_4 : Nat) (l1 : Int64) (l3 : Int32), ((0 ≤ l3.toInt) ∧ (True)) → (2147483647 - l3.toInt).toNat = n9_4 → WA G M_X4_goalSizes (ZM G M_X4_goalSizes d (fun r σ' => ∃ x : Int64, r = some (.long x) ∧ σ = σ' ∧ True)) B_X4_goalSizes_4 [(0, .ref 25), (1, .long l1), (3, .int l3)] [] σ := by
    intro n9_4
    induction n9_4 using Nat.strongRecOn with
    | _ n9_4 ih1 =>
      intro l1 l3  i9 m9_4
      obtain ⟨jhi2_0, -⟩ := i9
      have ul3 := Int32.toInt_lt l3
      have wl3 := Int32.le_toInt l3
      refine wa_iload_n (i := 3) rfl rfl ?_
      refine wa_iconst (v := 4) (by decide) ?_
      refine wa_icmp_ge o_X4_goalSizes_27 (by decide) (fun h3 => ?_) (fun h3 => ?_)
      · refine wa_lload_n (i := 1) rfl rfl ?_
        refine wa_lreturn rfl rfl ?_
        exact ⟨_, rfl, rfl, trivial⟩
      · have mh3 := nle_mx h3
        refine wa_lload_n (i := 1) rfl rfl ?_
        refine wa_aload_n (i := 0) rfl rfl ?_
        refine wa_getr ck_4 fl_4_22 ly_25 rf_25_4 ?_
        refine wa_iload_n (i := 3) rfl rfl ?_
        refine wa_lald ly_29 (by ((try simp only [vp_in_iff, Int32.lt_iff_toInt_lt, Int32.le_iff_toInt_le, ← Int32.toInt_inj, Int32.reduceToInt, n_1, n_2, n_8, Int32.toNatClampNeg, Int64.lt_iff_toInt_lt, Int64.le_iff_toInt_le, ← Int64.toInt_inj, Int64.reduceToInt, Int32.toInt_toInt64, lg_cmp_ge, lg_cmp_le, lg_cmp_gt, lg_cmp_lt, lg_cmp_eq, Bool.false_eq_true, Bool.true_eq_false, reduceCtorEq, false_iff, true_iff, iff_true, iff_false, and_true, true_and, and_false, false_and, reduceIte, ite_true, ite_false, eq_self] at *)) <;> omega) ?_
        refine wa_absL zs (allW_in (kT_5 _ (List.mem_of_getElem? (i := 49) rfl)) rfl) (Nat.le_of_ble_eq_true rfl) ?_
        refine wa_topl (fun v4 hv4 => ?_)
        have tv4 := i_absL hv4
        clear hv4
        refine wa_ladd ?_
        refine wa_topl (fun v5 hv5 => ?_)
        clear hv5
        refine wa_lstore_nD (lv' := [(1, .long v5), (0, .ref 25), (3, .int l3)]) (i := 1) rfl (by decide) rfl ?_
        refine wa_iinc (v := (1)) (lv' := fun y6 => [(3, .int y6), (1, .long v5), (0, .ref 25)]) (by decide) rfl (by decide) (fun _ => rfl) (fun y6 hy6 => ?_)
        have ty6 := i_addT hy6.symm
        clear hy6
        refine wa_goto o_X4_goalSizes_4 (by decide) ?_
        refine wa_pick [2, 1, 0] rfl ?_
        exact ih1 _ (by ((try simp only [vp_in_iff, Int32.lt_iff_toInt_lt, Int32.le_iff_toInt_le, ← Int32.toInt_inj, Int32.reduceToInt, n_1, n_2, n_8, Int32.toNatClampNeg, Int64.lt_iff_toInt_lt, Int64.le_iff_toInt_le, ← Int64.toInt_inj, Int64.reduceToInt, Int32.toInt_toInt64, lg_cmp_ge, lg_cmp_le, lg_cmp_gt, lg_cmp_lt, lg_cmp_eq, Bool.false_eq_true, Bool.true_eq_false, reduceCtorEq, false_iff, true_iff, iff_true, iff_false, and_true, true_and, and_false, false_and, reduceIte, ite_true, ite_false, eq_self] at *)) <;> omega) _ _ ⟨(by ((try simp only [vp_in_iff, Int32.lt_iff_toInt_lt, Int32.le_iff_toInt_le, ← Int32.toInt_inj, Int32.reduceToInt, n_1, n_2, n_8, Int32.toNatClampNeg, Int64.lt_iff_toInt_lt, Int64.le_iff_toInt_le, ← Int64.toInt_inj, Int64.reduceToInt, Int32.toInt_toInt64, lg_cmp_ge, lg_cmp_le, lg_cmp_gt, lg_cmp_lt, lg_cmp_eq, Bool.false_eq_true, Bool.true_eq_false, reduceCtorEq, false_iff, true_iff, iff_true, iff_false, and_true, true_and, and_false, false_and, reduceIte, ite_true, ite_false, eq_self] at *)) <;> omega), trivial⟩ rfl
  exact hi2 _ _ _ ⟨(by ((try simp only [vp_in_iff, Int32.lt_iff_toInt_lt, Int32.le_iff_toInt_le, ← Int32.toInt_inj, Int32.reduceToInt, n_1, n_2, n_8, Int32.toNatClampNeg, Int64.lt_iff_toInt_lt, Int64.le_iff_toInt_le, ← Int64.toInt_inj, Int64.reduceToInt, Int32.toInt_toInt64, lg_cmp_ge, lg_cmp_le, lg_cmp_gt, lg_cmp_lt, lg_cmp_eq, Bool.false_eq_true, Bool.true_eq_false, reduceCtorEq, false_iff, true_iff, iff_true, iff_false, and_true, true_and, and_false, false_and, reduceIte, ite_true, ite_false, eq_self] at *)) <;> omega), trivial⟩ rfl
set_option maxHeartbeats 4000000 in
theorem sp_X4_isGoalWithin (G : kG9) {d : Nat} (hd : 0 ≤ d) (σ : St) (a0 : Int32) (a1 : Int32) : Ct G M_X4_isGoalWithin d [.ref 25, .int a0, .int a1] σ (fun r σ' => ∃ x : Bool, r = some (.int (bI x)) ∧ σ = σ' ∧ True) := by
  refine wa_start (by decide) rfl (Nat.le_of_ble_eq_true rfl) (lv := [(0, .ref 25), (1, .int a0), (2, .int a1)]) rfl o_X4_isGoalWithin_0 rfl ?_
  have ua0 := Int32.toInt_lt a0
  have wa0 := Int32.le_toInt a0
  have ua1 := Int32.toInt_lt a1
  have wa1 := Int32.le_toInt a1
  refine wa_aload_n (i := 0) rfl rfl ?_
  refine wa_getr ck_4 fl_4_22 ly_25 rf_25_4 ?_
  refine wa_iconst (v := 4) (by decide) ?_
  refine wa_lald ly_29 (by ((try simp only [vp_in_iff, Int32.lt_iff_toInt_lt, Int32.le_iff_toInt_le, ← Int32.toInt_inj, Int32.reduceToInt, n_1, n_2, n_8, Int32.toNatClampNeg, Int64.lt_iff_toInt_lt, Int64.le_iff_toInt_le, ← Int64.toInt_inj, Int64.reduceToInt, Int32.toInt_toInt64, lg_cmp_ge, lg_cmp_le, lg_cmp_gt, lg_cmp_lt, lg_cmp_eq, Bool.false_eq_true, Bool.true_eq_false, reduceCtorEq, false_iff, true_iff, iff_true, iff_false, and_true, true_and, and_false, false_and, reduceIte, ite_true, ite_false, eq_self] at *)) <;> omega) ?_
  refine wa_absL zs (allW_in (kT_5 _ (List.mem_of_getElem? (i := 49) rfl)) rfl) (Nat.le_of_ble_eq_true rfl) ?_
  refine wa_topl (fun v1 hv1 => ?_)
  have tv1 := i_absL hv1
  clear hv1
  refine wa_iload_n (i := 2) rfl rfl ?_
  refine wa_i2l ?_
  refine wa_lcmp ?_
  refine wa_top (fun v2 hv2 => ?_)
  have tv2 := i_cmpT hv2
  clear hv2
  refine wa_if_gt o_X4_isGoalWithin_19 (by decide) (fun h3 => ?_) (fun h3 => ?_)
  · refine wa_iconst (v := 0) (by decide) ?_
    refine wa_istore_nD (lv' := [(3, .int (bI false)), (0, .ref 25), (1, .int a0), (2, .int a1)]) (i := 3) rfl (by decide) rfl ?_
    refine wa_iconst (v := 0) (by decide) ?_
    refine wa_istoreD (lv' := [(4, .int 0), (3, .int (bI false)), (0, .ref 25), (1, .int a0), (2, .int a1)]) (by decide) rfl ?_
    refine wa_pick [2, 3, 1, 0] rfl ?_
    have hi5 : ∀ (n9_24 : Nat) (l3 : Bool) (l4 : Int32), ((0 ≤ l4.toInt) ∧ (True)) → (2147483647 - l4.toInt).toNat = n9_24 → WA G M_X4_isGoalWithin (ZM G M_X4_isGoalWithin d (fun r σ' => ∃ x : Bool, r = some (.int (bI x)) ∧ σ = σ' ∧ True)) B_X4_isGoalWithin_24 [(0, .ref 25), (1, .int a0), (3, .int (bI l3)), (4, .int l4)] [] σ := by
      intro n9_24
      induction n9_24 using Nat.strongRecOn with
      | _ n9_24 ih4 =>
        intro l3 l4  i9 m9_24
        obtain ⟨jhi5_0, -⟩ := i9
        have ul4 := Int32.toInt_lt l4
        have wl4 := Int32.le_toInt l4
        refine wa_iload rfl ?_
        refine wa_iconst (v := 4) (by decide) ?_
        refine wa_icmp_ge o_X4_isGoalWithin_60 (by decide) (fun h6 => ?_) (fun h6 => ?_)
        · refine wa_iload_n (i := 3) rfl rfl ?_
          refine wa_zreturn l3 (rfl) rfl rfl ?_
          exact ⟨_, rfl, rfl, trivial⟩
        · have mh6 := nle_mx h6
          refine wa_iload_n (i := 3) rfl rfl ?_
          refine wa_aload_n (i := 0) rfl rfl ?_
          refine wa_getr ck_4 fl_4_22 ly_25 rf_25_4 ?_
          refine wa_iload rfl ?_
          refine wa_lald ly_29 (by ((try simp only [vp_in_iff, Int32.lt_iff_toInt_lt, Int32.le_iff_toInt_le, ← Int32.toInt_inj, Int32.reduceToInt, n_1, n_2, n_8, Int32.toNatClampNeg, Int64.lt_iff_toInt_lt, Int64.le_iff_toInt_le, ← Int64.toInt_inj, Int64.reduceToInt, Int32.toInt_toInt64, lg_cmp_ge, lg_cmp_le, lg_cmp_gt, lg_cmp_lt, lg_cmp_eq, Bool.false_eq_true, Bool.true_eq_false, reduceCtorEq, false_iff, true_iff, iff_true, iff_false, and_true, true_and, and_false, false_and, reduceIte, ite_true, ite_false, eq_self] at *)) <;> omega) ?_
          refine wa_absL zs (allW_in (kT_5 _ (List.mem_of_getElem? (i := 49) rfl)) rfl) (Nat.le_of_ble_eq_true rfl) ?_
          refine wa_topl (fun v7 hv7 => ?_)
          have tv7 := i_absL hv7
          clear hv7
          refine wa_iload_n (i := 1) rfl rfl ?_
          refine wa_i2l ?_
          refine wa_lcmp ?_
          refine wa_top (fun v8 hv8 => ?_)
          have tv8 := i_cmpT hv8
          clear hv8
          refine wa_if_gt o_X4_isGoalWithin_51 (by decide) (fun h9 => ?_) (fun h9 => ?_)
          · refine wa_iconst (v := 0) (by decide) ?_
            refine wa_iand ?_
            refine wa_rw (bI_and (a := l3) (b := false) rfl rfl) ?_
            refine wa_istore_nD (lv' := [(3, .int (bI (l3 && false))), (0, .ref 25), (1, .int a0), (4, .int l4)]) (i := 3) rfl (by decide) rfl ?_
            refine wa_iinc (v := (1)) (lv' := fun y10 => [(4, .int y10), (3, .int (bI (l3 && false))), (0, .ref 25), (1, .int a0)]) (by decide) rfl (by decide) (fun _ => rfl) (fun y10 hy10 => ?_)
            have ty10 := i_addT hy10.symm
            clear hy10
            refine wa_goto o_X4_isGoalWithin_24 (by decide) ?_
            refine wa_pick [2, 3, 1, 0] rfl ?_
            exact ih4 _ (by ((try simp only [vp_in_iff, Int32.lt_iff_toInt_lt, Int32.le_iff_toInt_le, ← Int32.toInt_inj, Int32.reduceToInt, n_1, n_2, n_8, Int32.toNatClampNeg, Int64.lt_iff_toInt_lt, Int64.le_iff_toInt_le, ← Int64.toInt_inj, Int64.reduceToInt, Int32.toInt_toInt64, lg_cmp_ge, lg_cmp_le, lg_cmp_gt, lg_cmp_lt, lg_cmp_eq, Bool.false_eq_true, Bool.true_eq_false, reduceCtorEq, false_iff, true_iff, iff_true, iff_false, and_true, true_and, and_false, false_and, reduceIte, ite_true, ite_false, eq_self] at *)) <;> omega) _ _ ⟨(by ((try simp only [vp_in_iff, Int32.lt_iff_toInt_lt, Int32.le_iff_toInt_le, ← Int32.toInt_inj, Int32.reduceToInt, n_1, n_2, n_8, Int32.toNatClampNeg, Int64.lt_iff_toInt_lt, Int64.le_iff_toInt_le, ← Int64.toInt_inj, Int64.reduceToInt, Int32.toInt_toInt64, lg_cmp_ge, lg_cmp_le, lg_cmp_gt, lg_cmp_lt, lg_cmp_eq, Bool.false_eq_true, Bool.true_eq_false, reduceCtorEq, false_iff, true_iff, iff_true, iff_false, and_true, true_and, and_false, false_and, reduceIte, ite_true, ite_false, eq_self] at *)) <;> omega), trivial⟩ rfl
          · refine wa_iconst (v := 1) (by decide) ?_
            refine wa_goto o_X4_isGoalWithin_52 (by decide) ?_
            refine wa_iand ?_
            refine wa_rw (bI_and (a := l3) (b := true) rfl rfl) ?_
            refine wa_istore_nD (lv' := [(3, .int (bI (l3 && true))), (0, .ref 25), (1, .int a0), (4, .int l4)]) (i := 3) rfl (by decide) rfl ?_
            refine wa_iinc (v := (1)) (lv' := fun y11 => [(4, .int y11), (3, .int (bI (l3 && true))), (0, .ref 25), (1, .int a0)]) (by decide) rfl (by decide) (fun _ => rfl) (fun y11 hy11 => ?_)
            have ty11 := i_addT hy11.symm
            clear hy11
            refine wa_goto o_X4_isGoalWithin_24 (by decide) ?_
            refine wa_pick [2, 3, 1, 0] rfl ?_
            exact ih4 _ (by ((try simp only [vp_in_iff, Int32.lt_iff_toInt_lt, Int32.le_iff_toInt_le, ← Int32.toInt_inj, Int32.reduceToInt, n_1, n_2, n_8, Int32.toNatClampNeg, Int64.lt_iff_toInt_lt, Int64.le_iff_toInt_le, ← Int64.toInt_inj, Int64.reduceToInt, Int32.toInt_toInt64, lg_cmp_ge, lg_cmp_le, lg_cmp_gt, lg_cmp_lt, lg_cmp_eq, Bool.false_eq_true, Bool.true_eq_false, reduceCtorEq, false_iff, true_iff, iff_true, iff_false, and_true, true_and, and_false, false_and, reduceIte, ite_true, ite_false, eq_self] at *)) <;> omega) _ _ ⟨(by ((try simp only [vp_in_iff, Int32.lt_iff_toInt_lt, Int32.le_iff_toInt_le, ← Int32.toInt_inj, Int32.reduceToInt, n_1, n_2, n_8, Int32.toNatClampNeg, Int64.lt_iff_toInt_lt, Int64.le_iff_toInt_le, ← Int64.toInt_inj, Int64.reduceToInt, Int32.toInt_toInt64, lg_cmp_ge, lg_cmp_le, lg_cmp_gt, lg_cmp_lt, lg_cmp_eq, Bool.false_eq_true, Bool.true_eq_false, reduceCtorEq, false_iff, true_iff, iff_true, iff_false, and_true, true_and, and_false, false_and, reduceIte, ite_true, ite_false, eq_self] at *)) <;> omega), trivial⟩ rfl
    exact hi5 _ _ _ ⟨(by ((try simp only [vp_in_iff, Int32.lt_iff_toInt_lt, Int32.le_iff_toInt_le, ← Int32.toInt_inj, Int32.reduceToInt, n_1, n_2, n_8, Int32.toNatClampNeg, Int64.lt_iff_toInt_lt, Int64.le_iff_toInt_le, ← Int64.toInt_inj, Int64.reduceToInt, Int32.toInt_toInt64, lg_cmp_ge, lg_cmp_le, lg_cmp_gt, lg_cmp_lt, lg_cmp_eq, Bool.false_eq_true, Bool.true_eq_false, reduceCtorEq, false_iff, true_iff, iff_true, iff_false, and_true, true_and, and_false, false_and, reduceIte, ite_true, ite_false, eq_self] at *)) <;> omega), trivial⟩ rfl
  · refine wa_iconst (v := 1) (by decide) ?_
    refine wa_goto o_X4_isGoalWithin_20 (by decide) ?_
    refine wa_istore_nD (lv' := [(3, .int (bI true)), (0, .ref 25), (1, .int a0), (2, .int a1)]) (i := 3) rfl (by decide) rfl ?_
    refine wa_iconst (v := 0) (by decide) ?_
    refine wa_istoreD (lv' := [(4, .int 0), (3, .int (bI true)), (0, .ref 25), (1, .int a0), (2, .int a1)]) (by decide) rfl ?_
    refine wa_pick [2, 3, 1, 0] rfl ?_
    have hi13 : ∀ (n9_24 : Nat) (l3 : Bool) (l4 : Int32), ((0 ≤ l4.toInt) ∧ (True)) → (2147483647 - l4.toInt).toNat = n9_24 → WA G M_X4_isGoalWithin (ZM G M_X4_isGoalWithin d (fun r σ' => ∃ x : Bool, r = some (.int (bI x)) ∧ σ = σ' ∧ True)) B_X4_isGoalWithin_24 [(0, .ref 25), (1, .int a0), (3, .int (bI l3)), (4, .int l4)] [] σ := by
      intro n9_24
      induction n9_24 using Nat.strongRecOn with
      | _ n9_24 ih12 =>
        intro l3 l4  i9 m9_24
        obtain ⟨jhi13_0, -⟩ := i9
        have ul4 := Int32.toInt_lt l4
        have wl4 := Int32.le_toInt l4
        refine wa_iload rfl ?_
        refine wa_iconst (v := 4) (by decide) ?_
        refine wa_icmp_ge o_X4_isGoalWithin_60 (by decide) (fun h14 => ?_) (fun h14 => ?_)
        · refine wa_iload_n (i := 3) rfl rfl ?_
          refine wa_zreturn l3 (rfl) rfl rfl ?_
          exact ⟨_, rfl, rfl, trivial⟩
        · have mh14 := nle_mx h14
          refine wa_iload_n (i := 3) rfl rfl ?_
          refine wa_aload_n (i := 0) rfl rfl ?_
          refine wa_getr ck_4 fl_4_22 ly_25 rf_25_4 ?_
          refine wa_iload rfl ?_
          refine wa_lald ly_29 (by ((try simp only [vp_in_iff, Int32.lt_iff_toInt_lt, Int32.le_iff_toInt_le, ← Int32.toInt_inj, Int32.reduceToInt, n_1, n_2, n_8, Int32.toNatClampNeg, Int64.lt_iff_toInt_lt, Int64.le_iff_toInt_le, ← Int64.toInt_inj, Int64.reduceToInt, Int32.toInt_toInt64, lg_cmp_ge, lg_cmp_le, lg_cmp_gt, lg_cmp_lt, lg_cmp_eq, Bool.false_eq_true, Bool.true_eq_false, reduceCtorEq, false_iff, true_iff, iff_true, iff_false, and_true, true_and, and_false, false_and, reduceIte, ite_true, ite_false, eq_self] at *)) <;> omega) ?_
          refine wa_absL zs (allW_in (kT_5 _ (List.mem_of_getElem? (i := 49) rfl)) rfl) (Nat.le_of_ble_eq_true rfl) ?_
          refine wa_topl (fun v15 hv15 => ?_)
          have tv15 := i_absL hv15
          clear hv15
          refine wa_iload_n (i := 1) rfl rfl ?_
          refine wa_i2l ?_
          refine wa_lcmp ?_
          refine wa_top (fun v16 hv16 => ?_)
          have tv16 := i_cmpT hv16
          clear hv16
          refine wa_if_gt o_X4_isGoalWithin_51 (by decide) (fun h17 => ?_) (fun h17 => ?_)
          · refine wa_iconst (v := 0) (by decide) ?_
            refine wa_iand ?_
            refine wa_rw (bI_and (a := l3) (b := false) rfl rfl) ?_
            refine wa_istore_nD (lv' := [(3, .int (bI (l3 && false))), (0, .ref 25), (1, .int a0), (4, .int l4)]) (i := 3) rfl (by decide) rfl ?_
            refine wa_iinc (v := (1)) (lv' := fun y18 => [(4, .int y18), (3, .int (bI (l3 && false))), (0, .ref 25), (1, .int a0)]) (by decide) rfl (by decide) (fun _ => rfl) (fun y18 hy18 => ?_)
            have ty18 := i_addT hy18.symm
            clear hy18
            refine wa_goto o_X4_isGoalWithin_24 (by decide) ?_
            refine wa_pick [2, 3, 1, 0] rfl ?_
            exact ih12 _ (by ((try simp only [vp_in_iff, Int32.lt_iff_toInt_lt, Int32.le_iff_toInt_le, ← Int32.toInt_inj, Int32.reduceToInt, n_1, n_2, n_8, Int32.toNatClampNeg, Int64.lt_iff_toInt_lt, Int64.le_iff_toInt_le, ← Int64.toInt_inj, Int64.reduceToInt, Int32.toInt_toInt64, lg_cmp_ge, lg_cmp_le, lg_cmp_gt, lg_cmp_lt, lg_cmp_eq, Bool.false_eq_true, Bool.true_eq_false, reduceCtorEq, false_iff, true_iff, iff_true, iff_false, and_true, true_and, and_false, false_and, reduceIte, ite_true, ite_false, eq_self] at *)) <;> omega) _ _ ⟨(by ((try simp only [vp_in_iff, Int32.lt_iff_toInt_lt, Int32.le_iff_toInt_le, ← Int32.toInt_inj, Int32.reduceToInt, n_1, n_2, n_8, Int32.toNatClampNeg, Int64.lt_iff_toInt_lt, Int64.le_iff_toInt_le, ← Int64.toInt_inj, Int64.reduceToInt, Int32.toInt_toInt64, lg_cmp_ge, lg_cmp_le, lg_cmp_gt, lg_cmp_lt, lg_cmp_eq, Bool.false_eq_true, Bool.true_eq_false, reduceCtorEq, false_iff, true_iff, iff_true, iff_false, and_true, true_and, and_false, false_and, reduceIte, ite_true, ite_false, eq_self] at *)) <;> omega), trivial⟩ rfl
          · refine wa_iconst (v := 1) (by decide) ?_
            refine wa_goto o_X4_isGoalWithin_52 (by decide) ?_
            refine wa_iand ?_
            refine wa_rw (bI_and (a := l3) (b := true) rfl rfl) ?_
            refine wa_istore_nD (lv' := [(3, .int (bI (l3 && true))), (0, .ref 25), (1, .int a0), (4, .int l4)]) (i := 3) rfl (by decide) rfl ?_
            refine wa_iinc (v := (1)) (lv' := fun y19 => [(4, .int y19), (3, .int (bI (l3 && true))), (0, .ref 25), (1, .int a0)]) (by decide) rfl (by decide) (fun _ => rfl) (fun y19 hy19 => ?_)
            have ty19 := i_addT hy19.symm
            clear hy19
            refine wa_goto o_X4_isGoalWithin_24 (by decide) ?_
            refine wa_pick [2, 3, 1, 0] rfl ?_
            exact ih12 _ (by ((try simp only [vp_in_iff, Int32.lt_iff_toInt_lt, Int32.le_iff_toInt_le, ← Int32.toInt_inj, Int32.reduceToInt, n_1, n_2, n_8, Int32.toNatClampNeg, Int64.lt_iff_toInt_lt, Int64.le_iff_toInt_le, ← Int64.toInt_inj, Int64.reduceToInt, Int32.toInt_toInt64, lg_cmp_ge, lg_cmp_le, lg_cmp_gt, lg_cmp_lt, lg_cmp_eq, Bool.false_eq_true, Bool.true_eq_false, reduceCtorEq, false_iff, true_iff, iff_true, iff_false, and_true, true_and, and_false, false_and, reduceIte, ite_true, ite_false, eq_self] at *)) <;> omega) _ _ ⟨(by ((try simp only [vp_in_iff, Int32.lt_iff_toInt_lt, Int32.le_iff_toInt_le, ← Int32.toInt_inj, Int32.reduceToInt, n_1, n_2, n_8, Int32.toNatClampNeg, Int64.lt_iff_toInt_lt, Int64.le_iff_toInt_le, ← Int64.toInt_inj, Int64.reduceToInt, Int32.toInt_toInt64, lg_cmp_ge, lg_cmp_le, lg_cmp_gt, lg_cmp_lt, lg_cmp_eq, Bool.false_eq_true, Bool.true_eq_false, reduceCtorEq, false_iff, true_iff, iff_true, iff_false, and_true, true_and, and_false, false_and, reduceIte, ite_true, ite_false, eq_self] at *)) <;> omega), trivial⟩ rfl
    exact hi13 _ _ _ ⟨(by ((try simp only [vp_in_iff, Int32.lt_iff_toInt_lt, Int32.le_iff_toInt_le, ← Int32.toInt_inj, Int32.reduceToInt, n_1, n_2, n_8, Int32.toNatClampNeg, Int64.lt_iff_toInt_lt, Int64.le_iff_toInt_le, ← Int64.toInt_inj, Int64.reduceToInt, Int32.toInt_toInt64, lg_cmp_ge, lg_cmp_le, lg_cmp_gt, lg_cmp_lt, lg_cmp_eq, Bool.false_eq_true, Bool.true_eq_false, reduceCtorEq, false_iff, true_iff, iff_true, iff_false, and_true, true_and, and_false, false_and, reduceIte, ite_true, ite_false, eq_self] at *)) <;> omega), trivial⟩ rfl
set_option maxHeartbeats 4000000 in
theorem sp_X5_isTold (G : kG9) {d : Nat} (hd : 0 ≤ d) (σ : St) (a0 : Int32) (a1 : Int32) : Ct G M_X5_isTold d [.ref 51, .int a0, .int a1] σ (fun r σ' => ∃ x : Bool, r = some (.int (bI x)) ∧ σ = σ' ∧ (x = true ↔ 0 ≤ a0.toInt ∧ a0.toInt < (gi σ 51 9).toInt ∧ 0 ≤ a1.toInt ∧ a1.toInt < (gi σ 51 10).toInt) ∧ True) := by
  refine wa_start (by decide) rfl (Nat.le_of_ble_eq_true rfl) (lv := [(0, .ref 51), (1, .int a0), (2, .int a1)]) rfl o_X5_isTold_0 rfl ?_
  have ua0 := Int32.toInt_lt a0
  have wa0 := Int32.le_toInt a0
  have ua1 := Int32.toInt_lt a1
  have wa1 := Int32.le_toInt a1
  refine wa_iload_n (i := 1) rfl rfl ?_
  refine wa_if_lt o_X5_isTold_28 (by decide) (fun h1 => ?_) (fun h1 => ?_)
  · refine wa_iconst (v := 0) (by decide) ?_
    refine wa_zreturn false (rfl) rfl rfl ?_
    exact ⟨_, rfl, rfl, (by ((try simp only [vp_in_iff, Int32.lt_iff_toInt_lt, Int32.le_iff_toInt_le, ← Int32.toInt_inj, Int32.reduceToInt, n_1, n_2, n_8, Int32.toNatClampNeg, Int64.lt_iff_toInt_lt, Int64.le_iff_toInt_le, ← Int64.toInt_inj, Int64.reduceToInt, Int32.toInt_toInt64, lg_cmp_ge, lg_cmp_le, lg_cmp_gt, lg_cmp_lt, lg_cmp_eq, Bool.false_eq_true, Bool.true_eq_false, reduceCtorEq, false_iff, true_iff, iff_true, iff_false, and_true, true_and, and_false, false_and, reduceIte, ite_true, ite_false, eq_self] at *)) <;> omega), trivial⟩
  · refine wa_iload_n (i := 1) rfl rfl ?_
    refine wa_aload_n (i := 0) rfl rfl ?_
    refine wa_geti ck_5 fl_5_41 ly_51 ?_
    refine wa_icmp_ge o_X5_isTold_28 (by decide) (fun h2 => ?_) (fun h2 => ?_)
    · refine wa_iconst (v := 0) (by decide) ?_
      refine wa_zreturn false (rfl) rfl rfl ?_
      exact ⟨_, rfl, rfl, (by ((try simp only [vp_in_iff, Int32.lt_iff_toInt_lt, Int32.le_iff_toInt_le, ← Int32.toInt_inj, Int32.reduceToInt, n_1, n_2, n_8, Int32.toNatClampNeg, Int64.lt_iff_toInt_lt, Int64.le_iff_toInt_le, ← Int64.toInt_inj, Int64.reduceToInt, Int32.toInt_toInt64, lg_cmp_ge, lg_cmp_le, lg_cmp_gt, lg_cmp_lt, lg_cmp_eq, Bool.false_eq_true, Bool.true_eq_false, reduceCtorEq, false_iff, true_iff, iff_true, iff_false, and_true, true_and, and_false, false_and, reduceIte, ite_true, ite_false, eq_self] at *)) <;> omega), trivial⟩
    · have mh2 := nle_mx h2
      refine wa_iload_n (i := 2) rfl rfl ?_
      refine wa_if_lt o_X5_isTold_28 (by decide) (fun h3 => ?_) (fun h3 => ?_)
      · refine wa_iconst (v := 0) (by decide) ?_
        refine wa_zreturn false (rfl) rfl rfl ?_
        exact ⟨_, rfl, rfl, (by ((try simp only [vp_in_iff, Int32.lt_iff_toInt_lt, Int32.le_iff_toInt_le, ← Int32.toInt_inj, Int32.reduceToInt, n_1, n_2, n_8, Int32.toNatClampNeg, Int64.lt_iff_toInt_lt, Int64.le_iff_toInt_le, ← Int64.toInt_inj, Int64.reduceToInt, Int32.toInt_toInt64, lg_cmp_ge, lg_cmp_le, lg_cmp_gt, lg_cmp_lt, lg_cmp_eq, Bool.false_eq_true, Bool.true_eq_false, reduceCtorEq, false_iff, true_iff, iff_true, iff_false, and_true, true_and, and_false, false_and, reduceIte, ite_true, ite_false, eq_self] at *)) <;> omega), trivial⟩
      · refine wa_iload_n (i := 2) rfl rfl ?_
        refine wa_aload_n (i := 0) rfl rfl ?_
        refine wa_geti ck_5 fl_5_45 ly_51 ?_
        refine wa_icmp_ge o_X5_isTold_28 (by decide) (fun h4 => ?_) (fun h4 => ?_)
        · refine wa_iconst (v := 0) (by decide) ?_
          refine wa_zreturn false (rfl) rfl rfl ?_
          exact ⟨_, rfl, rfl, (by ((try simp only [vp_in_iff, Int32.lt_iff_toInt_lt, Int32.le_iff_toInt_le, ← Int32.toInt_inj, Int32.reduceToInt, n_1, n_2, n_8, Int32.toNatClampNeg, Int64.lt_iff_toInt_lt, Int64.le_iff_toInt_le, ← Int64.toInt_inj, Int64.reduceToInt, Int32.toInt_toInt64, lg_cmp_ge, lg_cmp_le, lg_cmp_gt, lg_cmp_lt, lg_cmp_eq, Bool.false_eq_true, Bool.true_eq_false, reduceCtorEq, false_iff, true_iff, iff_true, iff_false, and_true, true_and, and_false, false_and, reduceIte, ite_true, ite_false, eq_self] at *)) <;> omega), trivial⟩
        · have mh4 := nle_mx h4
          refine wa_iconst (v := 1) (by decide) ?_
          refine wa_goto o_X5_isTold_29 (by decide) ?_
          refine wa_zreturn true (rfl) rfl rfl ?_
          exact ⟨_, rfl, rfl, (by ((try simp only [vp_in_iff, Int32.lt_iff_toInt_lt, Int32.le_iff_toInt_le, ← Int32.toInt_inj, Int32.reduceToInt, n_1, n_2, n_8, Int32.toNatClampNeg, Int64.lt_iff_toInt_lt, Int64.le_iff_toInt_le, ← Int64.toInt_inj, Int64.reduceToInt, Int32.toInt_toInt64, lg_cmp_ge, lg_cmp_le, lg_cmp_gt, lg_cmp_lt, lg_cmp_eq, Bool.false_eq_true, Bool.true_eq_false, reduceCtorEq, false_iff, true_iff, iff_true, iff_false, and_true, true_and, and_false, false_and, reduceIte, ite_true, ite_false, eq_self] at *)) <;> omega), trivial⟩
set_option maxHeartbeats 4000000 in
theorem sp_X5_toldHalf (G : kG9) {d : Nat} (hd : 1 ≤ d) (σ : St) (a0 : Int32) (a1 : Int32) : Ct G M_X5_toldHalf d [.ref 51, .int a0, .int a1] σ (fun r σ' => ∃ x : Int32, r = some (.int x) ∧ σ = σ' ∧ True) := by
  refine wa_start (by decide) rfl (Nat.le_of_ble_eq_true rfl) (lv := [(0, .ref 51), (1, .int a0), (2, .int a1)]) rfl o_X5_toldHalf_0 rfl ?_
  have ua0 := Int32.toInt_lt a0
  have wa0 := Int32.le_toInt a0
  have ua1 := Int32.toInt_lt a1
  have wa1 := Int32.le_toInt a1
  refine wa_aload_n (i := 0) rfl rfl ?_
  refine wa_iload_n (i := 1) rfl rfl ?_
  refine wa_iload_n (i := 2) rfl rfl ?_
  refine wa_Vi (d9 := d - 1) [.int _, .int _] [] (sp_X5_isTold G (d := d - 1) (by omega) σ _ _) (rfl) rfl rfl (zr (by omega)) mk_X5_isTold ly_51 ml_5_48 (Nat.le_of_ble_eq_true rfl) (fun x2 s1 hs1 => ?_)
  obtain ⟨bx2, ex2, zs1, cx2_1, -⟩ := pB hs1
  subst ex2
  subst zs1
  refine wa_if_eq o_X5_toldHalf_36 (by decide) (fun h3 => ?_) (fun h3 => ?_)
  · replace h3 := bI_f (b := bx2) (rfl) h3
    have uh3_0 := iff_f cx2_1 h3
    refine wa_iconst (v := 0) (by decide) ?_
    refine wa_ireturn rfl rfl ?_
    exact ⟨_, rfl, rfl, trivial⟩
  · replace h3 := bI_t (b := bx2) (rfl) h3
    have uh3_0 := iff_t cx2_1 h3
    refine wa_iload_n (i := 1) rfl rfl ?_
    refine wa_sipush (v := 3000) (by decide) ?_
    refine wa_icmp_ge o_X5_toldHalf_36 (by decide) (fun h4 => ?_) (fun h4 => ?_)
    · refine wa_iconst (v := 0) (by decide) ?_
      refine wa_ireturn rfl rfl ?_
      exact ⟨_, rfl, rfl, trivial⟩
    · have mh4 := nle_mx h4
      refine wa_iload_n (i := 2) rfl rfl ?_
      refine wa_bipush (v := 16) (by decide) ?_
      refine wa_icmp_ge o_X5_toldHalf_36 (by decide) (fun h5 => ?_) (fun h5 => ?_)
      · refine wa_iconst (v := 0) (by decide) ?_
        refine wa_ireturn rfl rfl ?_
        exact ⟨_, rfl, rfl, trivial⟩
      · have mh5 := nle_mx h5
        refine wa_aload_n (i := 0) rfl rfl ?_
        refine wa_getr ck_5 fl_5_31 ly_51 rf_51_7 ?_
        refine wa_iload_n (i := 1) rfl rfl ?_
        refine wa_bipush (v := 16) (by decide) ?_
        refine wa_imul ?_
        refine wa_top (fun v6 hv6 => ?_)
        have tv6 := i_mulT hv6
        clear hv6
        refine wa_iload_n (i := 2) rfl rfl ?_
        refine wa_iadd ?_
        refine wa_top (fun v7 hv7 => ?_)
        have tv7 := i_addT hv7
        clear hv7
        refine wa_iald ly_58 (by ((try simp only [vp_in_iff, Int32.lt_iff_toInt_lt, Int32.le_iff_toInt_le, ← Int32.toInt_inj, Int32.reduceToInt, n_1, n_2, n_8, Int32.toNatClampNeg, Int64.lt_iff_toInt_lt, Int64.le_iff_toInt_le, ← Int64.toInt_inj, Int64.reduceToInt, Int32.toInt_toInt64, lg_cmp_ge, lg_cmp_le, lg_cmp_gt, lg_cmp_lt, lg_cmp_eq, Bool.false_eq_true, Bool.true_eq_false, reduceCtorEq, false_iff, true_iff, iff_true, iff_false, and_true, true_and, and_false, false_and, reduceIte, ite_true, ite_false, eq_self] at *)) <;> omega) ?_
        refine wa_goto o_X5_toldHalf_37 (by decide) ?_
        refine wa_ireturn rfl rfl ?_
        exact ⟨_, rfl, rfl, trivial⟩
set_option maxHeartbeats 4000000 in
theorem sp_X5_toldTakes (G : kG9) {d : Nat} (hd : 1 ≤ d) (σ : St) (a0 : Int32) (a1 : Int32) : Ct G M_X5_toldTakes d [.ref 51, .int a0, .int a1] σ (fun r σ' => ∃ x : Int32, r = some (.int x) ∧ σ = σ' ∧ True) := by
  refine wa_start (by decide) rfl (Nat.le_of_ble_eq_true rfl) (lv := [(0, .ref 51), (1, .int a0), (2, .int a1)]) rfl o_X5_toldTakes_0 rfl ?_
  have ua0 := Int32.toInt_lt a0
  have wa0 := Int32.le_toInt a0
  have ua1 := Int32.toInt_lt a1
  have wa1 := Int32.le_toInt a1
  refine wa_aload_n (i := 0) rfl rfl ?_
  refine wa_iload_n (i := 1) rfl rfl ?_
  refine wa_iload_n (i := 2) rfl rfl ?_
  refine wa_Vi (d9 := d - 1) [.int _, .int _] [] (sp_X5_isTold G (d := d - 1) (by omega) σ _ _) (rfl) rfl rfl (zr (by omega)) mk_X5_isTold ly_51 ml_5_48 (Nat.le_of_ble_eq_true rfl) (fun x2 s1 hs1 => ?_)
  obtain ⟨bx2, ex2, zs1, cx2_1, -⟩ := pB hs1
  subst ex2
  subst zs1
  refine wa_if_eq o_X5_toldTakes_29 (by decide) (fun h3 => ?_) (fun h3 => ?_)
  · replace h3 := bI_f (b := bx2) (rfl) h3
    have uh3_0 := iff_f cx2_1 h3
    refine wa_iconst (v := 0) (by decide) ?_
    refine wa_ireturn rfl rfl ?_
    exact ⟨_, rfl, rfl, trivial⟩
  · replace h3 := bI_t (b := bx2) (rfl) h3
    have uh3_0 := iff_t cx2_1 h3
    refine wa_iload_n (i := 1) rfl rfl ?_
    refine wa_sipush (v := 3000) (by decide) ?_
    refine wa_icmp_ge o_X5_toldTakes_29 (by decide) (fun h4 => ?_) (fun h4 => ?_)
    · refine wa_iconst (v := 0) (by decide) ?_
      refine wa_ireturn rfl rfl ?_
      exact ⟨_, rfl, rfl, trivial⟩
    · have mh4 := nle_mx h4
      refine wa_aload_n (i := 0) rfl rfl ?_
      refine wa_getr ck_5 fl_5_34 ly_51 rf_51_8 ?_
      refine wa_iload_n (i := 1) rfl rfl ?_
      refine wa_iald ly_59 (by ((try simp only [vp_in_iff, Int32.lt_iff_toInt_lt, Int32.le_iff_toInt_le, ← Int32.toInt_inj, Int32.reduceToInt, n_1, n_2, n_8, Int32.toNatClampNeg, Int64.lt_iff_toInt_lt, Int64.le_iff_toInt_le, ← Int64.toInt_inj, Int64.reduceToInt, Int32.toInt_toInt64, lg_cmp_ge, lg_cmp_le, lg_cmp_gt, lg_cmp_lt, lg_cmp_eq, Bool.false_eq_true, Bool.true_eq_false, reduceCtorEq, false_iff, true_iff, iff_true, iff_false, and_true, true_and, and_false, false_and, reduceIte, ite_true, ite_false, eq_self] at *)) <;> omega) ?_
      refine wa_iload_n (i := 2) rfl rfl ?_
      refine wa_iushr ?_
      refine wa_top (fun v5 hv5 => ?_)
      clear hv5
      refine wa_iconst (v := 1) (by decide) ?_
      refine wa_iand ?_
      refine wa_top (fun v6 hv6 => ?_)
      have tv6 := i_andT hv6
      clear hv6
      refine wa_goto o_X5_toldTakes_30 (by decide) ?_
      refine wa_ireturn rfl rfl ?_
      exact ⟨_, rfl, rfl, trivial⟩
set_option maxRecDepth 100000 in
set_option maxHeartbeats 4000000 in
theorem sp_J7_fill_53178_at_55 (G : kG9) {d : Nat} (hd : 0 ≤ d) (σ : St) (a1 : Int32) : Ct G M_J7_fill_53178 d [.ref 55, .int a1] σ (fun r σ' => Sm 55 56 σ σ' ∧ True) := by
  refine wa_startF (by decide +kernel) rfl (Nat.le_of_ble_eq_true rfl) (lv := [(0, .ref 55), (1, .int a1)]) rfl o_J7_fill_53178_0 rfl ?_
  have ua1 := Int32.toInt_lt a1
  have wa1 := Int32.le_toInt a1
  refine wa_iconst (v := 0) (by decide) ?_
  refine wa_istore_nD (lv' := [(2, .int 0), (0, .ref 55), (1, .int a1)]) (i := 2) rfl (by decide) rfl ?_
  refine wa_aload_n (i := 0) rfl rfl ?_
  refine wa_alen ly_55 (by decide) ?_
  refine wa_rw (show Int32.ofNat 8192 = 8192 from rfl) ?_
  refine wa_istore_nD (lv' := [(3, .int 8192), (2, .int 0), (0, .ref 55), (1, .int a1)]) (i := 3) rfl (by decide) rfl ?_
  refine wa_pick [2, 3, 1, 0] rfl ?_
  have hi3 : ∀ (n9_5 : Nat) (l2 : Int32) (s1 : St), ((Sm 55 56 σ s1) ∧ (0 ≤ l2.toInt) ∧ (True)) → (2147483647 - l2.toInt).toNat = n9_5 → WA G M_J7_fill_53178 (ZM G M_J7_fill_53178 d (fun r σ' => Sm 55 56 σ σ' ∧ True)) B_J7_fill_53178_5 [(0, .ref 55), (1, .int a1), (2, .int l2), (3, .int 8192)] [] s1 := by
    intro n9_5
    induction n9_5 using Nat.strongRecOn with
    | _ n9_5 ih2 =>
      intro l2 s1 i9 m9_5
      obtain ⟨Fs1, jhi3_0, -⟩ := i9
      have ul2 := Int32.toInt_lt l2
      have wl2 := Int32.le_toInt l2
      refine wa_iload_n (i := 2) rfl rfl ?_
      refine wa_iload_n (i := 3) rfl rfl ?_
      refine wa_icmp_ge o_J7_fill_53178_20 (by decide) (fun h4 => ?_) (fun h4 => ?_)
      · refine wa_return (st := []) rfl rfl ?_
        exact ⟨Fs1, trivial⟩
      · have mh4 := nle_mx h4
        refine wa_aload_n (i := 0) rfl rfl ?_
        refine wa_iload_n (i := 2) rfl rfl ?_
        refine wa_iload_n (i := 1) rfl rfl ?_
        refine wa_iast ly_55 (by ((try simp only [vp_in_iff, Int32.lt_iff_toInt_lt, Int32.le_iff_toInt_le, ← Int32.toInt_inj, Int32.reduceToInt, n_1, n_2, n_8, Int32.toNatClampNeg, Int64.lt_iff_toInt_lt, Int64.le_iff_toInt_le, ← Int64.toInt_inj, Int64.reduceToInt, Int32.toInt_toInt64, lg_cmp_ge, lg_cmp_le, lg_cmp_gt, lg_cmp_lt, lg_cmp_eq, Bool.false_eq_true, Bool.true_eq_false, reduceCtorEq, false_iff, true_iff, iff_true, iff_false, and_true, true_and, and_false, false_and, reduceIte, ite_true, ite_false, eq_self] at *)) <;> omega) (fun s5 hs5 => ?_)
        have Fs5 : Sm 55 56 σ s5 := by rw [hs5]; exact Sm.si Fs1 _ _ (by decide) (by decide)
        refine wa_iinc (v := (1)) (lv' := fun y6 => [(2, .int y6), (0, .ref 55), (1, .int a1), (3, .int 8192)]) (by decide) rfl (by decide) (fun _ => rfl) (fun y6 hy6 => ?_)
        have ty6 := i_addT hy6.symm
        clear hy6
        refine wa_goto o_J7_fill_53178_5 (by decide) ?_
        refine wa_pick [1, 2, 0, 3] rfl ?_
        exact ih2 _ (by ((try simp only [vp_in_iff, Int32.lt_iff_toInt_lt, Int32.le_iff_toInt_le, ← Int32.toInt_inj, Int32.reduceToInt, n_1, n_2, n_8, Int32.toNatClampNeg, Int64.lt_iff_toInt_lt, Int64.le_iff_toInt_le, ← Int64.toInt_inj, Int64.reduceToInt, Int32.toInt_toInt64, lg_cmp_ge, lg_cmp_le, lg_cmp_gt, lg_cmp_lt, lg_cmp_eq, Bool.false_eq_true, Bool.true_eq_false, reduceCtorEq, false_iff, true_iff, iff_true, iff_false, and_true, true_and, and_false, false_and, reduceIte, ite_true, ite_false, eq_self] at *)) <;> omega) _ _ ⟨Fs5, (by ((try simp only [vp_in_iff, Int32.lt_iff_toInt_lt, Int32.le_iff_toInt_le, ← Int32.toInt_inj, Int32.reduceToInt, n_1, n_2, n_8, Int32.toNatClampNeg, Int64.lt_iff_toInt_lt, Int64.le_iff_toInt_le, ← Int64.toInt_inj, Int64.reduceToInt, Int32.toInt_toInt64, lg_cmp_ge, lg_cmp_le, lg_cmp_gt, lg_cmp_lt, lg_cmp_eq, Bool.false_eq_true, Bool.true_eq_false, reduceCtorEq, false_iff, true_iff, iff_true, iff_false, and_true, true_and, and_false, false_and, reduceIte, ite_true, ite_false, eq_self] at *)) <;> omega), trivial⟩ rfl
  exact hi3 _ _ _ ⟨(Sm.rf 55 56 σ), (by ((try simp only [vp_in_iff, Int32.lt_iff_toInt_lt, Int32.le_iff_toInt_le, ← Int32.toInt_inj, Int32.reduceToInt, n_1, n_2, n_8, Int32.toNatClampNeg, Int64.lt_iff_toInt_lt, Int64.le_iff_toInt_le, ← Int64.toInt_inj, Int64.reduceToInt, Int32.toInt_toInt64, lg_cmp_ge, lg_cmp_le, lg_cmp_gt, lg_cmp_lt, lg_cmp_eq, Bool.false_eq_true, Bool.true_eq_false, reduceCtorEq, false_iff, true_iff, iff_true, iff_false, and_true, true_and, and_false, false_and, reduceIte, ite_true, ite_false, eq_self] at *)) <;> omega), trivial⟩ rfl
set_option maxHeartbeats 4000000 in
theorem sp_X5_sortOf (G : kG9) {d : Nat} (hd : 0 ≤ d) (σ : St) (a0 : Int32) : Ct G M_X5_sortOf d [.ref 51, .int a0] σ (fun r σ' => ∃ x : Int32, r = some (.int x) ∧ σ = σ' ∧ True) := by
  refine wa_start (by decide) rfl (Nat.le_of_ble_eq_true rfl) (lv := [(0, .ref 51), (1, .int a0)]) rfl o_X5_sortOf_0 rfl ?_
  have ua0 := Int32.toInt_lt a0
  have wa0 := Int32.le_toInt a0
  refine wa_iload_n (i := 1) rfl rfl ?_
  refine wa_if_lt o_X5_sortOf_20 (by decide) (fun h1 => ?_) (fun h1 => ?_)
  · refine wa_iconst (v := 0) (by decide) ?_
    refine wa_ireturn rfl rfl ?_
    exact ⟨_, rfl, rfl, trivial⟩
  · refine wa_iload_n (i := 1) rfl rfl ?_
    refine wa_sipush (v := 3000) (by decide) ?_
    refine wa_icmp_ge o_X5_sortOf_20 (by decide) (fun h2 => ?_) (fun h2 => ?_)
    · refine wa_iconst (v := 0) (by decide) ?_
      refine wa_ireturn rfl rfl ?_
      exact ⟨_, rfl, rfl, trivial⟩
    · have mh2 := nle_mx h2
      refine wa_aload_n (i := 0) rfl rfl ?_
      refine wa_getr ck_5 fl_5_15 ly_51 rf_51_2 ?_
      refine wa_iload_n (i := 1) rfl rfl ?_
      refine wa_iald ly_53 (by ((try simp only [vp_in_iff, Int32.lt_iff_toInt_lt, Int32.le_iff_toInt_le, ← Int32.toInt_inj, Int32.reduceToInt, n_1, n_2, n_8, Int32.toNatClampNeg, Int64.lt_iff_toInt_lt, Int64.le_iff_toInt_le, ← Int64.toInt_inj, Int64.reduceToInt, Int32.toInt_toInt64, lg_cmp_ge, lg_cmp_le, lg_cmp_gt, lg_cmp_lt, lg_cmp_eq, Bool.false_eq_true, Bool.true_eq_false, reduceCtorEq, false_iff, true_iff, iff_true, iff_false, and_true, true_and, and_false, false_and, reduceIte, ite_true, ite_false, eq_self] at *)) <;> omega) ?_
      refine wa_goto o_X5_sortOf_21 (by decide) ?_
      refine wa_ireturn rfl rfl ?_
      exact ⟨_, rfl, rfl, trivial⟩
set_option maxHeartbeats 4000000 in
theorem sp_X5_areLike (G : kG9) {d : Nat} (hd : 1 ≤ d) (σ : St) (a0 : Int32) (a1 : Int32) : Ct G M_X5_areLike d [.ref 51, .int a0, .int a1] σ (fun r σ' => ∃ x : Bool, r = some (.int (bI x)) ∧ σ = σ' ∧ True) := by
  refine wa_start (by decide) rfl (Nat.le_of_ble_eq_true rfl) (lv := [(0, .ref 51), (1, .int a0), (2, .int a1)]) rfl o_X5_areLike_0 rfl ?_
  have ua0 := Int32.toInt_lt a0
  have wa0 := Int32.le_toInt a0
  have ua1 := Int32.toInt_lt a1
  have wa1 := Int32.le_toInt a1
  refine wa_aload_n (i := 0) rfl rfl ?_
  refine wa_iload_n (i := 1) rfl rfl ?_
  refine wa_Vi (d9 := d - 1) [.int _] [] (sp_X5_sortOf G (d := d - 1) (by omega) σ _) (rfl) rfl rfl (zr (by omega)) mk_X5_sortOf ly_51 ml_5_90 (Nat.le_of_ble_eq_true rfl) (fun x2 s1 hs1 => ?_)
  obtain ⟨zs1, -⟩ := pI hs1
  subst zs1
  refine wa_aload_n (i := 0) rfl rfl ?_
  refine wa_iload_n (i := 2) rfl rfl ?_
  refine wa_Vi (d9 := d - 1) [.int _] [.int x2] (sp_X5_sortOf G (d := d - 1) (by omega) σ _) (rfl) rfl rfl (zr (by omega)) mk_X5_sortOf ly_51 ml_5_90 (Nat.le_of_ble_eq_true rfl) (fun x4 s3 hs3 => ?_)
  obtain ⟨zs3, -⟩ := pI hs3
  subst zs3
  refine wa_icmp_ne o_X5_areLike_17 (by decide) (fun h5 => ?_) (fun h5 => ?_)
  · refine wa_iconst (v := 0) (by decide) ?_
    refine wa_istore_nD (lv' := [(3, .int (bI false)), (0, .ref 51), (1, .int a0), (2, .int a1)]) (i := 3) rfl (by decide) rfl ?_
    refine wa_iconst (v := 0) (by decide) ?_
    refine wa_istoreD (lv' := [(4, .int 0), (3, .int (bI false)), (0, .ref 51), (1, .int a0), (2, .int a1)]) (by decide) rfl ?_
    refine wa_pick [2, 3, 4, 1, 0] rfl ?_
    have hi7 : ∀ (n9_22 : Nat) (l3 : Bool) (l4 : Int32), ((0 ≤ l4.toInt) ∧ (True)) → (2147483647 - l4.toInt).toNat = n9_22 → WA G M_X5_areLike (ZM G M_X5_areLike d (fun r σ' => ∃ x : Bool, r = some (.int (bI x)) ∧ σ = σ' ∧ True)) B_X5_areLike_22 [(0, .ref 51), (1, .int a0), (2, .int a1), (3, .int (bI l3)), (4, .int l4)] [] σ := by
      intro n9_22
      induction n9_22 using Nat.strongRecOn with
      | _ n9_22 ih6 =>
        intro l3 l4  i9 m9_22
        obtain ⟨jhi7_0, -⟩ := i9
        have ul4 := Int32.toInt_lt l4
        have wl4 := Int32.le_toInt l4
        refine wa_iload rfl ?_
        refine wa_aload_n (i := 0) rfl rfl ?_
        refine wa_getr ck_5 fl_5_37 ly_51 rf_51_0 ?_
        refine wa_geti ck_6 fl_5_93 ly_31 ?_
        refine wa_icmp_ge o_X5_areLike_81 (by decide) (fun h8 => ?_) (fun h8 => ?_)
        · refine wa_iload_n (i := 3) rfl rfl ?_
          refine wa_zreturn l3 (rfl) rfl rfl ?_
          exact ⟨_, rfl, rfl, trivial⟩
        · have mh8 := nle_mx h8
          refine wa_iload_n (i := 3) rfl rfl ?_
          refine wa_if_eq o_X5_areLike_81 (by decide) (fun h9 => ?_) (fun h9 => ?_)
          · replace h9 := bI_f (b := l3) (rfl) h9
            refine wa_iload_n (i := 3) rfl rfl ?_
            refine wa_zreturn l3 (rfl) rfl rfl ?_
            exact ⟨_, rfl, rfl, trivial⟩
          · replace h9 := bI_t (b := l3) (rfl) h9
            refine wa_aload_n (i := 0) rfl rfl ?_
            refine wa_aload_n (i := 0) rfl rfl ?_
            refine wa_getr ck_5 fl_5_37 ly_51 rf_51_0 ?_
            refine wa_iload_n (i := 1) rfl rfl ?_
            refine wa_iload rfl ?_
            refine wa_Vi (d9 := d - 1) [.int _, .int _] [.ref 51] (sp_X6_behind G (d := d - 1) (by omega) σ _ _) (rfl) rfl rfl (zr (by omega)) mk_X6_behind ly_31 ml_5_96 (Nat.le_of_ble_eq_true rfl) (fun x11 s10 hs10 => ?_)
            obtain ⟨zs10, -⟩ := pI hs10
            subst zs10
            refine wa_Vi (d9 := d - 1) [.int _] [] (sp_X5_sortOf G (d := d - 1) (by omega) σ _) (rfl) rfl rfl (zr (by omega)) mk_X5_sortOf ly_51 ml_5_90 (Nat.le_of_ble_eq_true rfl) (fun x13 s12 hs12 => ?_)
            obtain ⟨zs12, -⟩ := pI hs12
            subst zs12
            refine wa_aload_n (i := 0) rfl rfl ?_
            refine wa_aload_n (i := 0) rfl rfl ?_
            refine wa_getr ck_5 fl_5_37 ly_51 rf_51_0 ?_
            refine wa_iload_n (i := 2) rfl rfl ?_
            refine wa_iload rfl ?_
            refine wa_Vi (d9 := d - 1) [.int _, .int _] [.ref 51, .int x13] (sp_X6_behind G (d := d - 1) (by omega) σ _ _) (rfl) rfl rfl (zr (by omega)) mk_X6_behind ly_31 ml_5_96 (Nat.le_of_ble_eq_true rfl) (fun x15 s14 hs14 => ?_)
            obtain ⟨zs14, -⟩ := pI hs14
            subst zs14
            refine wa_Vi (d9 := d - 1) [.int _] [.int x13] (sp_X5_sortOf G (d := d - 1) (by omega) σ _) (rfl) rfl rfl (zr (by omega)) mk_X5_sortOf ly_51 ml_5_90 (Nat.le_of_ble_eq_true rfl) (fun x17 s16 hs16 => ?_)
            obtain ⟨zs16, -⟩ := pI hs16
            subst zs16
            refine wa_icmp_ne o_X5_areLike_73 (by decide) (fun h18 => ?_) (fun h18 => ?_)
            · refine wa_iconst (v := 0) (by decide) ?_
              refine wa_istore_nD (lv' := [(3, .int (bI false)), (0, .ref 51), (1, .int a0), (2, .int a1), (4, .int l4)]) (i := 3) rfl (by decide) rfl ?_
              refine wa_iinc (v := (1)) (lv' := fun y19 => [(4, .int y19), (3, .int (bI false)), (0, .ref 51), (1, .int a0), (2, .int a1)]) (by decide) rfl (by decide) (fun _ => rfl) (fun y19 hy19 => ?_)
              have ty19 := i_addT hy19.symm
              clear hy19
              refine wa_goto o_X5_areLike_22 (by decide) ?_
              refine wa_pick [2, 3, 4, 1, 0] rfl ?_
              exact ih6 _ (by ((try simp only [vp_in_iff, Int32.lt_iff_toInt_lt, Int32.le_iff_toInt_le, ← Int32.toInt_inj, Int32.reduceToInt, n_1, n_2, n_8, Int32.toNatClampNeg, Int64.lt_iff_toInt_lt, Int64.le_iff_toInt_le, ← Int64.toInt_inj, Int64.reduceToInt, Int32.toInt_toInt64, lg_cmp_ge, lg_cmp_le, lg_cmp_gt, lg_cmp_lt, lg_cmp_eq, Bool.false_eq_true, Bool.true_eq_false, reduceCtorEq, false_iff, true_iff, iff_true, iff_false, and_true, true_and, and_false, false_and, reduceIte, ite_true, ite_false, eq_self] at *)) <;> omega) _ _ ⟨(by ((try simp only [vp_in_iff, Int32.lt_iff_toInt_lt, Int32.le_iff_toInt_le, ← Int32.toInt_inj, Int32.reduceToInt, n_1, n_2, n_8, Int32.toNatClampNeg, Int64.lt_iff_toInt_lt, Int64.le_iff_toInt_le, ← Int64.toInt_inj, Int64.reduceToInt, Int32.toInt_toInt64, lg_cmp_ge, lg_cmp_le, lg_cmp_gt, lg_cmp_lt, lg_cmp_eq, Bool.false_eq_true, Bool.true_eq_false, reduceCtorEq, false_iff, true_iff, iff_true, iff_false, and_true, true_and, and_false, false_and, reduceIte, ite_true, ite_false, eq_self] at *)) <;> omega), trivial⟩ rfl
            · refine wa_iconst (v := 1) (by decide) ?_
              refine wa_goto o_X5_areLike_74 (by decide) ?_
              refine wa_istore_nD (lv' := [(3, .int (bI true)), (0, .ref 51), (1, .int a0), (2, .int a1), (4, .int l4)]) (i := 3) rfl (by decide) rfl ?_
              refine wa_iinc (v := (1)) (lv' := fun y20 => [(4, .int y20), (3, .int (bI true)), (0, .ref 51), (1, .int a0), (2, .int a1)]) (by decide) rfl (by decide) (fun _ => rfl) (fun y20 hy20 => ?_)
              have ty20 := i_addT hy20.symm
              clear hy20
              refine wa_goto o_X5_areLike_22 (by decide) ?_
              refine wa_pick [2, 3, 4, 1, 0] rfl ?_
              exact ih6 _ (by ((try simp only [vp_in_iff, Int32.lt_iff_toInt_lt, Int32.le_iff_toInt_le, ← Int32.toInt_inj, Int32.reduceToInt, n_1, n_2, n_8, Int32.toNatClampNeg, Int64.lt_iff_toInt_lt, Int64.le_iff_toInt_le, ← Int64.toInt_inj, Int64.reduceToInt, Int32.toInt_toInt64, lg_cmp_ge, lg_cmp_le, lg_cmp_gt, lg_cmp_lt, lg_cmp_eq, Bool.false_eq_true, Bool.true_eq_false, reduceCtorEq, false_iff, true_iff, iff_true, iff_false, and_true, true_and, and_false, false_and, reduceIte, ite_true, ite_false, eq_self] at *)) <;> omega) _ _ ⟨(by ((try simp only [vp_in_iff, Int32.lt_iff_toInt_lt, Int32.le_iff_toInt_le, ← Int32.toInt_inj, Int32.reduceToInt, n_1, n_2, n_8, Int32.toNatClampNeg, Int64.lt_iff_toInt_lt, Int64.le_iff_toInt_le, ← Int64.toInt_inj, Int64.reduceToInt, Int32.toInt_toInt64, lg_cmp_ge, lg_cmp_le, lg_cmp_gt, lg_cmp_lt, lg_cmp_eq, Bool.false_eq_true, Bool.true_eq_false, reduceCtorEq, false_iff, true_iff, iff_true, iff_false, and_true, true_and, and_false, false_and, reduceIte, ite_true, ite_false, eq_self] at *)) <;> omega), trivial⟩ rfl
    exact hi7 _ _ _ ⟨(by ((try simp only [vp_in_iff, Int32.lt_iff_toInt_lt, Int32.le_iff_toInt_le, ← Int32.toInt_inj, Int32.reduceToInt, n_1, n_2, n_8, Int32.toNatClampNeg, Int64.lt_iff_toInt_lt, Int64.le_iff_toInt_le, ← Int64.toInt_inj, Int64.reduceToInt, Int32.toInt_toInt64, lg_cmp_ge, lg_cmp_le, lg_cmp_gt, lg_cmp_lt, lg_cmp_eq, Bool.false_eq_true, Bool.true_eq_false, reduceCtorEq, false_iff, true_iff, iff_true, iff_false, and_true, true_and, and_false, false_and, reduceIte, ite_true, ite_false, eq_self] at *)) <;> omega), trivial⟩ rfl
  · refine wa_iconst (v := 1) (by decide) ?_
    refine wa_goto o_X5_areLike_18 (by decide) ?_
    refine wa_istore_nD (lv' := [(3, .int (bI true)), (0, .ref 51), (1, .int a0), (2, .int a1)]) (i := 3) rfl (by decide) rfl ?_
    refine wa_iconst (v := 0) (by decide) ?_
    refine wa_istoreD (lv' := [(4, .int 0), (3, .int (bI true)), (0, .ref 51), (1, .int a0), (2, .int a1)]) (by decide) rfl ?_
    refine wa_pick [2, 3, 4, 1, 0] rfl ?_
    have hi22 : ∀ (n9_22 : Nat) (l3 : Bool) (l4 : Int32), ((0 ≤ l4.toInt) ∧ (True)) → (2147483647 - l4.toInt).toNat = n9_22 → WA G M_X5_areLike (ZM G M_X5_areLike d (fun r σ' => ∃ x : Bool, r = some (.int (bI x)) ∧ σ = σ' ∧ True)) B_X5_areLike_22 [(0, .ref 51), (1, .int a0), (2, .int a1), (3, .int (bI l3)), (4, .int l4)] [] σ := by
      intro n9_22
      induction n9_22 using Nat.strongRecOn with
      | _ n9_22 ih21 =>
        intro l3 l4  i9 m9_22
        obtain ⟨jhi22_0, -⟩ := i9
        have ul4 := Int32.toInt_lt l4
        have wl4 := Int32.le_toInt l4
        refine wa_iload rfl ?_
        refine wa_aload_n (i := 0) rfl rfl ?_
        refine wa_getr ck_5 fl_5_37 ly_51 rf_51_0 ?_
        refine wa_geti ck_6 fl_5_93 ly_31 ?_
        refine wa_icmp_ge o_X5_areLike_81 (by decide) (fun h23 => ?_) (fun h23 => ?_)
        · refine wa_iload_n (i := 3) rfl rfl ?_
          refine wa_zreturn l3 (rfl) rfl rfl ?_
          exact ⟨_, rfl, rfl, trivial⟩
        · have mh23 := nle_mx h23
          refine wa_iload_n (i := 3) rfl rfl ?_
          refine wa_if_eq o_X5_areLike_81 (by decide) (fun h24 => ?_) (fun h24 => ?_)
          · replace h24 := bI_f (b := l3) (rfl) h24
            refine wa_iload_n (i := 3) rfl rfl ?_
            refine wa_zreturn l3 (rfl) rfl rfl ?_
            exact ⟨_, rfl, rfl, trivial⟩
          · replace h24 := bI_t (b := l3) (rfl) h24
            refine wa_aload_n (i := 0) rfl rfl ?_
            refine wa_aload_n (i := 0) rfl rfl ?_
            refine wa_getr ck_5 fl_5_37 ly_51 rf_51_0 ?_
            refine wa_iload_n (i := 1) rfl rfl ?_
            refine wa_iload rfl ?_
            refine wa_Vi (d9 := d - 1) [.int _, .int _] [.ref 51] (sp_X6_behind G (d := d - 1) (by omega) σ _ _) (rfl) rfl rfl (zr (by omega)) mk_X6_behind ly_31 ml_5_96 (Nat.le_of_ble_eq_true rfl) (fun x26 s25 hs25 => ?_)
            obtain ⟨zs25, -⟩ := pI hs25
            subst zs25
            refine wa_Vi (d9 := d - 1) [.int _] [] (sp_X5_sortOf G (d := d - 1) (by omega) σ _) (rfl) rfl rfl (zr (by omega)) mk_X5_sortOf ly_51 ml_5_90 (Nat.le_of_ble_eq_true rfl) (fun x28 s27 hs27 => ?_)
            obtain ⟨zs27, -⟩ := pI hs27
            subst zs27
            refine wa_aload_n (i := 0) rfl rfl ?_
            refine wa_aload_n (i := 0) rfl rfl ?_
            refine wa_getr ck_5 fl_5_37 ly_51 rf_51_0 ?_
            refine wa_iload_n (i := 2) rfl rfl ?_
            refine wa_iload rfl ?_
            refine wa_Vi (d9 := d - 1) [.int _, .int _] [.ref 51, .int x28] (sp_X6_behind G (d := d - 1) (by omega) σ _ _) (rfl) rfl rfl (zr (by omega)) mk_X6_behind ly_31 ml_5_96 (Nat.le_of_ble_eq_true rfl) (fun x30 s29 hs29 => ?_)
            obtain ⟨zs29, -⟩ := pI hs29
            subst zs29
            refine wa_Vi (d9 := d - 1) [.int _] [.int x28] (sp_X5_sortOf G (d := d - 1) (by omega) σ _) (rfl) rfl rfl (zr (by omega)) mk_X5_sortOf ly_51 ml_5_90 (Nat.le_of_ble_eq_true rfl) (fun x32 s31 hs31 => ?_)
            obtain ⟨zs31, -⟩ := pI hs31
            subst zs31
            refine wa_icmp_ne o_X5_areLike_73 (by decide) (fun h33 => ?_) (fun h33 => ?_)
            · refine wa_iconst (v := 0) (by decide) ?_
              refine wa_istore_nD (lv' := [(3, .int (bI false)), (0, .ref 51), (1, .int a0), (2, .int a1), (4, .int l4)]) (i := 3) rfl (by decide) rfl ?_
              refine wa_iinc (v := (1)) (lv' := fun y34 => [(4, .int y34), (3, .int (bI false)), (0, .ref 51), (1, .int a0), (2, .int a1)]) (by decide) rfl (by decide) (fun _ => rfl) (fun y34 hy34 => ?_)
              have ty34 := i_addT hy34.symm
              clear hy34
              refine wa_goto o_X5_areLike_22 (by decide) ?_
              refine wa_pick [2, 3, 4, 1, 0] rfl ?_
              exact ih21 _ (by ((try simp only [vp_in_iff, Int32.lt_iff_toInt_lt, Int32.le_iff_toInt_le, ← Int32.toInt_inj, Int32.reduceToInt, n_1, n_2, n_8, Int32.toNatClampNeg, Int64.lt_iff_toInt_lt, Int64.le_iff_toInt_le, ← Int64.toInt_inj, Int64.reduceToInt, Int32.toInt_toInt64, lg_cmp_ge, lg_cmp_le, lg_cmp_gt, lg_cmp_lt, lg_cmp_eq, Bool.false_eq_true, Bool.true_eq_false, reduceCtorEq, false_iff, true_iff, iff_true, iff_false, and_true, true_and, and_false, false_and, reduceIte, ite_true, ite_false, eq_self] at *)) <;> omega) _ _ ⟨(by ((try simp only [vp_in_iff, Int32.lt_iff_toInt_lt, Int32.le_iff_toInt_le, ← Int32.toInt_inj, Int32.reduceToInt, n_1, n_2, n_8, Int32.toNatClampNeg, Int64.lt_iff_toInt_lt, Int64.le_iff_toInt_le, ← Int64.toInt_inj, Int64.reduceToInt, Int32.toInt_toInt64, lg_cmp_ge, lg_cmp_le, lg_cmp_gt, lg_cmp_lt, lg_cmp_eq, Bool.false_eq_true, Bool.true_eq_false, reduceCtorEq, false_iff, true_iff, iff_true, iff_false, and_true, true_and, and_false, false_and, reduceIte, ite_true, ite_false, eq_self] at *)) <;> omega), trivial⟩ rfl
            · refine wa_iconst (v := 1) (by decide) ?_
              refine wa_goto o_X5_areLike_74 (by decide) ?_
              refine wa_istore_nD (lv' := [(3, .int (bI true)), (0, .ref 51), (1, .int a0), (2, .int a1), (4, .int l4)]) (i := 3) rfl (by decide) rfl ?_
              refine wa_iinc (v := (1)) (lv' := fun y35 => [(4, .int y35), (3, .int (bI true)), (0, .ref 51), (1, .int a0), (2, .int a1)]) (by decide) rfl (by decide) (fun _ => rfl) (fun y35 hy35 => ?_)
              have ty35 := i_addT hy35.symm
              clear hy35
              refine wa_goto o_X5_areLike_22 (by decide) ?_
              refine wa_pick [2, 3, 4, 1, 0] rfl ?_
              exact ih21 _ (by ((try simp only [vp_in_iff, Int32.lt_iff_toInt_lt, Int32.le_iff_toInt_le, ← Int32.toInt_inj, Int32.reduceToInt, n_1, n_2, n_8, Int32.toNatClampNeg, Int64.lt_iff_toInt_lt, Int64.le_iff_toInt_le, ← Int64.toInt_inj, Int64.reduceToInt, Int32.toInt_toInt64, lg_cmp_ge, lg_cmp_le, lg_cmp_gt, lg_cmp_lt, lg_cmp_eq, Bool.false_eq_true, Bool.true_eq_false, reduceCtorEq, false_iff, true_iff, iff_true, iff_false, and_true, true_and, and_false, false_and, reduceIte, ite_true, ite_false, eq_self] at *)) <;> omega) _ _ ⟨(by ((try simp only [vp_in_iff, Int32.lt_iff_toInt_lt, Int32.le_iff_toInt_le, ← Int32.toInt_inj, Int32.reduceToInt, n_1, n_2, n_8, Int32.toNatClampNeg, Int64.lt_iff_toInt_lt, Int64.le_iff_toInt_le, ← Int64.toInt_inj, Int64.reduceToInt, Int32.toInt_toInt64, lg_cmp_ge, lg_cmp_le, lg_cmp_gt, lg_cmp_lt, lg_cmp_eq, Bool.false_eq_true, Bool.true_eq_false, reduceCtorEq, false_iff, true_iff, iff_true, iff_false, and_true, true_and, and_false, false_and, reduceIte, ite_true, ite_false, eq_self] at *)) <;> omega), trivial⟩ rfl
    exact hi22 _ _ _ ⟨(by ((try simp only [vp_in_iff, Int32.lt_iff_toInt_lt, Int32.le_iff_toInt_le, ← Int32.toInt_inj, Int32.reduceToInt, n_1, n_2, n_8, Int32.toNatClampNeg, Int64.lt_iff_toInt_lt, Int64.le_iff_toInt_le, ← Int64.toInt_inj, Int64.reduceToInt, Int32.toInt_toInt64, lg_cmp_ge, lg_cmp_le, lg_cmp_gt, lg_cmp_lt, lg_cmp_eq, Bool.false_eq_true, Bool.true_eq_false, reduceCtorEq, false_iff, true_iff, iff_true, iff_false, and_true, true_and, and_false, false_and, reduceIte, ite_true, ite_false, eq_self] at *)) <;> omega), trivial⟩ rfl
set_option maxHeartbeats 4000000 in
theorem sp_X5_likeOf (G : kG9) {d : Nat} (hd : 2 ≤ d) (σ : St) (a0 : Int32) (p1 : 0 ≤ a0.toInt ∧ a0.toInt < 3000) : Ct G M_X5_likeOf d [.ref 51, .int a0] σ (fun r σ' => ∃ x : Int32, r = some (.int x) ∧ Sm 55 56 σ σ' ∧ (0 ≤ x.toInt ∧ x.toInt < 3000) ∧ True) := by
  refine wa_start (by decide) rfl (Nat.le_of_ble_eq_true rfl) (lv := [(0, .ref 51), (1, .int a0)]) rfl o_X5_likeOf_0 rfl ?_
  have ua0 := Int32.toInt_lt a0
  have wa0 := Int32.le_toInt a0
  refine wa_aload_n (i := 0) rfl rfl ?_
  refine wa_iload_n (i := 1) rfl rfl ?_
  refine wa_Vi (d9 := d - 1) [.int _] [] (sp_X5_sortOf G (d := d - 1) (by omega) σ _) (rfl) rfl rfl (zr (by omega)) mk_X5_sortOf ly_51 ml_5_90 (Nat.le_of_ble_eq_true rfl) (fun x2 s1 hs1 => ?_)
  obtain ⟨zs1, -⟩ := pI hs1
  subst zs1
  refine wa_istore_nD (lv' := [(2, .int x2), (0, .ref 51), (1, .int a0)]) (i := 2) rfl (by decide) rfl ?_
  refine wa_iconst (v := 0) (by decide) ?_
  refine wa_istore_nD (lv' := [(3, .int 0), (2, .int x2), (0, .ref 51), (1, .int a0)]) (i := 3) rfl (by decide) rfl ?_
  refine wa_pick [2, 3, 1, 0] rfl ?_
  have hi5 : ∀ (n9_8 : Nat) (l2 : Int32) (l3 : Int32) (s3 : St), ((Sm 55 56 σ s3) ∧ (gi s3 31 12 = gi σ 31 12) ∧ (0 ≤ l3.toInt) ∧ (True)) → (2147483647 - l3.toInt).toNat = n9_8 → WA G M_X5_likeOf (ZM G M_X5_likeOf d (fun r σ' => ∃ x : Int32, r = some (.int x) ∧ Sm 55 56 σ σ' ∧ (0 ≤ x.toInt ∧ x.toInt < 3000) ∧ True)) B_X5_likeOf_8 [(0, .ref 51), (1, .int a0), (2, .int l2), (3, .int l3)] [] s3 := by
    intro n9_8
    induction n9_8 using Nat.strongRecOn with
    | _ n9_8 ih4 =>
      intro l2 l3 s3 i9 m9_8
      obtain ⟨Fs3, khi5_0, jhi5_0, -⟩ := i9
      have ul2 := Int32.toInt_lt l2
      have wl2 := Int32.le_toInt l2
      have ul3 := Int32.toInt_lt l3
      have wl3 := Int32.le_toInt l3
      refine wa_iload_n (i := 3) rfl rfl ?_
      refine wa_aload_n (i := 0) rfl rfl ?_
      refine wa_getr ck_5 fl_5_37 ly_51 rf_51_0 ?_
      refine wa_geti ck_6 fl_5_93 ly_31 ?_
      refine wa_rw (khi5_0) ?_
      refine wa_icmp_ge o_X5_likeOf_44 (by decide) (fun h6 => ?_) (fun h6 => ?_)
      · refine wa_iload_n (i := 2) rfl rfl ?_
        refine wa_iload_n (i := 2) rfl rfl ?_
        refine wa_bipush (v := 15) (by decide) ?_
        refine wa_iushr ?_
        refine wa_top (fun v7 hv7 => ?_)
        clear hv7
        refine wa_ixor ?_
        refine wa_top (fun v8 hv8 => ?_)
        clear hv8
        refine wa_ldc (v := (739982445)) (allW_in (kT_7 _ (List.mem_of_getElem? (i := 107) rfl)) rfl) ?_
        refine wa_imul ?_
        refine wa_top (fun v9 hv9 => ?_)
        have tv9 := i_mulT hv9
        clear hv9
        refine wa_istore_nD (lv' := [(2, .int v9), (0, .ref 51), (1, .int a0), (3, .int l3)]) (i := 2) rfl (by decide) rfl ?_
        refine wa_iload_n (i := 2) rfl rfl ?_
        refine wa_iload_n (i := 2) rfl rfl ?_
        refine wa_bipush (v := 13) (by decide) ?_
        refine wa_iushr ?_
        refine wa_top (fun v10 hv10 => ?_)
        clear hv10
        refine wa_ixor ?_
        refine wa_top (fun v11 hv11 => ?_)
        clear hv11
        refine wa_sipush (v := 8191) (by decide) ?_
        refine wa_iand ?_
        refine wa_top (fun v12 hv12 => ?_)
        have tv12 := i_andT hv12
        clear hv12
        refine wa_istore_nD (lv' := [(3, .int v12), (2, .int v9), (0, .ref 51), (1, .int a0)]) (i := 3) rfl (by decide) rfl ?_
        refine wa_iconst (v := 0) (by decide) ?_
        refine wa_istoreD (lv' := [(4, .int 0), (3, .int v12), (2, .int v9), (0, .ref 51), (1, .int a0)]) (by decide) rfl ?_
        refine wa_pick [3, 4, 1, 0] rfl ?_
        have hi15 : ∀ (n9_68 : Nat) (l3 : Int32) (l4 : Int32) (s13 : St), ((Sm 55 56 σ s13) ∧ (gi s13 31 12 = gi σ 31 12) ∧ (0 ≤ l4.toInt) ∧ (0 ≤ l3.toInt ∧ l3.toInt ≤ 8191) ∧ (True)) → (2147483647 - l4.toInt).toNat = n9_68 → WA G M_X5_likeOf (ZM G M_X5_likeOf d (fun r σ' => ∃ x : Int32, r = some (.int x) ∧ Sm 55 56 σ σ' ∧ (0 ≤ x.toInt ∧ x.toInt < 3000) ∧ True)) B_X5_likeOf_68 [(0, .ref 51), (1, .int a0), (3, .int l3), (4, .int l4)] [] s13 := by
          intro n9_68
          induction n9_68 using Nat.strongRecOn with
          | _ n9_68 ih14 =>
            intro l3 l4 s13 i9 m9_68
            obtain ⟨Fs13, khi15_0, jhi15_0, jhi15_1, -⟩ := i9
            have ul3 := Int32.toInt_lt l3
            have wl3 := Int32.le_toInt l3
            have ul4 := Int32.toInt_lt l4
            have wl4 := Int32.le_toInt l4
            refine wa_iload rfl ?_
            refine wa_sipush (v := 8192) (by decide) ?_
            refine wa_icmp_ge o_X5_likeOf_135 (by decide) (fun h16 => ?_) (fun h16 => ?_)
            · refine wa_iload_n (i := 1) rfl rfl ?_
              refine wa_ireturn rfl rfl ?_
              exact ⟨_, rfl, Fs13, (by ((try simp only [vp_in_iff, Int32.lt_iff_toInt_lt, Int32.le_iff_toInt_le, ← Int32.toInt_inj, Int32.reduceToInt, n_1, n_2, n_8, Int32.toNatClampNeg, Int64.lt_iff_toInt_lt, Int64.le_iff_toInt_le, ← Int64.toInt_inj, Int64.reduceToInt, Int32.toInt_toInt64, lg_cmp_ge, lg_cmp_le, lg_cmp_gt, lg_cmp_lt, lg_cmp_eq, Bool.false_eq_true, Bool.true_eq_false, reduceCtorEq, false_iff, true_iff, iff_true, iff_false, and_true, true_and, and_false, false_and, reduceIte, ite_true, ite_false, eq_self] at *)) <;> omega), trivial⟩
            · have mh16 := nle_mx h16
              refine wa_aload_n (i := 0) rfl rfl ?_
              refine wa_getr ck_5 fl_5_21 ly_51 rf_51_4 ?_
              refine wa_iload_n (i := 3) rfl rfl ?_
              refine wa_iald ly_55 (by ((try simp only [vp_in_iff, Int32.lt_iff_toInt_lt, Int32.le_iff_toInt_le, ← Int32.toInt_inj, Int32.reduceToInt, n_1, n_2, n_8, Int32.toNatClampNeg, Int64.lt_iff_toInt_lt, Int64.le_iff_toInt_le, ← Int64.toInt_inj, Int64.reduceToInt, Int32.toInt_toInt64, lg_cmp_ge, lg_cmp_le, lg_cmp_gt, lg_cmp_lt, lg_cmp_eq, Bool.false_eq_true, Bool.true_eq_false, reduceCtorEq, false_iff, true_iff, iff_true, iff_false, and_true, true_and, and_false, false_and, reduceIte, ite_true, ite_false, eq_self] at *)) <;> omega) ?_
              refine wa_iconst (v := 1) (by decide) ?_
              refine wa_isub ?_
              refine wa_top (fun v17 hv17 => ?_)
              have tv17 := i_subT hv17
              clear hv17
              refine wa_istoreD (lv' := [(5, .int v17), (0, .ref 51), (1, .int a0), (3, .int l3), (4, .int l4)]) (by decide) rfl ?_
              refine wa_iload rfl ?_
              refine wa_if_ge o_X5_likeOf_102 (by decide) (fun h18 => ?_) (fun h18 => ?_)
              · refine wa_aload_n (i := 0) rfl rfl ?_
                refine wa_iload rfl ?_
                refine wa_iload_n (i := 1) rfl rfl ?_
                refine wa_Vi (d9 := d - 1) [.int _, .int _] [] (sp_X5_areLike G (d := d - 1) (by omega) s13 _ _) (rfl) rfl rfl (zr (by omega)) mk_X5_areLike ly_51 ml_5_100 (Nat.le_of_ble_eq_true rfl) (fun x20 s19 hs19 => ?_)
                obtain ⟨bx20, ex20, zs19, -⟩ := pB hs19
                subst ex20
                subst zs19
                refine wa_if_eq o_X5_likeOf_121 (by decide) (fun h21 => ?_) (fun h21 => ?_)
                · replace h21 := bI_f (b := bx20) (rfl) h21
                  refine wa_iload_n (i := 3) rfl rfl ?_
                  refine wa_iconst (v := 1) (by decide) ?_
                  refine wa_iadd ?_
                  refine wa_top (fun v22 hv22 => ?_)
                  have tv22 := i_addT hv22
                  clear hv22
                  refine wa_sipush (v := 8191) (by decide) ?_
                  refine wa_iand ?_
                  refine wa_top (fun v23 hv23 => ?_)
                  have tv23 := i_andT hv23
                  clear hv23
                  refine wa_istore_nD (lv' := [(3, .int v23), (5, .int v17), (0, .ref 51), (1, .int a0), (4, .int l4)]) (i := 3) rfl (by decide) rfl ?_
                  refine wa_iinc (v := (1)) (lv' := fun y24 => [(4, .int y24), (3, .int v23), (5, .int v17), (0, .ref 51), (1, .int a0)]) (by decide) rfl (by decide) (fun _ => rfl) (fun y24 hy24 => ?_)
                  have ty24 := i_addT hy24.symm
                  clear hy24
                  refine wa_goto o_X5_likeOf_68 (by decide) ?_
                  refine wa_pick [3, 4, 1, 0] rfl ?_
                  exact ih14 _ (by ((try simp only [vp_in_iff, Int32.lt_iff_toInt_lt, Int32.le_iff_toInt_le, ← Int32.toInt_inj, Int32.reduceToInt, n_1, n_2, n_8, Int32.toNatClampNeg, Int64.lt_iff_toInt_lt, Int64.le_iff_toInt_le, ← Int64.toInt_inj, Int64.reduceToInt, Int32.toInt_toInt64, lg_cmp_ge, lg_cmp_le, lg_cmp_gt, lg_cmp_lt, lg_cmp_eq, Bool.false_eq_true, Bool.true_eq_false, reduceCtorEq, false_iff, true_iff, iff_true, iff_false, and_true, true_and, and_false, false_and, reduceIte, ite_true, ite_false, eq_self] at *)) <;> omega) _ _ _ ⟨Fs13, (khi15_0), (by ((try simp only [vp_in_iff, Int32.lt_iff_toInt_lt, Int32.le_iff_toInt_le, ← Int32.toInt_inj, Int32.reduceToInt, n_1, n_2, n_8, Int32.toNatClampNeg, Int64.lt_iff_toInt_lt, Int64.le_iff_toInt_le, ← Int64.toInt_inj, Int64.reduceToInt, Int32.toInt_toInt64, lg_cmp_ge, lg_cmp_le, lg_cmp_gt, lg_cmp_lt, lg_cmp_eq, Bool.false_eq_true, Bool.true_eq_false, reduceCtorEq, false_iff, true_iff, iff_true, iff_false, and_true, true_and, and_false, false_and, reduceIte, ite_true, ite_false, eq_self] at *)) <;> omega), (by ((try simp only [vp_in_iff, Int32.lt_iff_toInt_lt, Int32.le_iff_toInt_le, ← Int32.toInt_inj, Int32.reduceToInt, n_1, n_2, n_8, Int32.toNatClampNeg, Int64.lt_iff_toInt_lt, Int64.le_iff_toInt_le, ← Int64.toInt_inj, Int64.reduceToInt, Int32.toInt_toInt64, lg_cmp_ge, lg_cmp_le, lg_cmp_gt, lg_cmp_lt, lg_cmp_eq, Bool.false_eq_true, Bool.true_eq_false, reduceCtorEq, false_iff, true_iff, iff_true, iff_false, and_true, true_and, and_false, false_and, reduceIte, ite_true, ite_false, eq_self] at *)) <;> omega), trivial⟩ rfl
                · replace h21 := bI_t (b := bx20) (rfl) h21
                  refine wa_iload rfl ?_
                  refine wa_sipush (v := 2999) (by decide) ?_
                  refine wa_minI zs (allW_in (kT_7 _ (List.mem_of_getElem? (i := 91) rfl)) rfl) (Nat.le_of_ble_eq_true rfl) ?_
                  refine wa_top (fun v25 hv25 => ?_)
                  have tv25 := i_minI hv25
                  clear hv25
                  refine wa_ireturn rfl rfl ?_
                  exact ⟨_, rfl, Fs13, (by ((try simp only [vp_in_iff, Int32.lt_iff_toInt_lt, Int32.le_iff_toInt_le, ← Int32.toInt_inj, Int32.reduceToInt, n_1, n_2, n_8, Int32.toNatClampNeg, Int64.lt_iff_toInt_lt, Int64.le_iff_toInt_le, ← Int64.toInt_inj, Int64.reduceToInt, Int32.toInt_toInt64, lg_cmp_ge, lg_cmp_le, lg_cmp_gt, lg_cmp_lt, lg_cmp_eq, Bool.false_eq_true, Bool.true_eq_false, reduceCtorEq, false_iff, true_iff, iff_true, iff_false, and_true, true_and, and_false, false_and, reduceIte, ite_true, ite_false, eq_self] at *)) <;> omega), trivial⟩
              · refine wa_aload_n (i := 0) rfl rfl ?_
                refine wa_getr ck_5 fl_5_21 ly_51 rf_51_4 ?_
                refine wa_iload_n (i := 3) rfl rfl ?_
                refine wa_iload_n (i := 1) rfl rfl ?_
                refine wa_iconst (v := 1) (by decide) ?_
                refine wa_iadd ?_
                refine wa_top (fun v26 hv26 => ?_)
                have tv26 := i_addT hv26
                clear hv26
                refine wa_iast ly_55 (by ((try simp only [vp_in_iff, Int32.lt_iff_toInt_lt, Int32.le_iff_toInt_le, ← Int32.toInt_inj, Int32.reduceToInt, n_1, n_2, n_8, Int32.toNatClampNeg, Int64.lt_iff_toInt_lt, Int64.le_iff_toInt_le, ← Int64.toInt_inj, Int64.reduceToInt, Int32.toInt_toInt64, lg_cmp_ge, lg_cmp_le, lg_cmp_gt, lg_cmp_lt, lg_cmp_eq, Bool.false_eq_true, Bool.true_eq_false, reduceCtorEq, false_iff, true_iff, iff_true, iff_false, and_true, true_and, and_false, false_and, reduceIte, ite_true, ite_false, eq_self] at *)) <;> omega) (fun s27 hs27 => ?_)
                have Fs27 : Sm 55 56 σ s27 := by rw [hs27]; exact Sm.si Fs13 _ _ (by decide) (by decide)
                refine wa_iload_n (i := 1) rfl rfl ?_
                refine wa_ireturn rfl rfl ?_
                exact ⟨_, rfl, Fs27, (by ((try simp only [vp_in_iff, Int32.lt_iff_toInt_lt, Int32.le_iff_toInt_le, ← Int32.toInt_inj, Int32.reduceToInt, n_1, n_2, n_8, Int32.toNatClampNeg, Int64.lt_iff_toInt_lt, Int64.le_iff_toInt_le, ← Int64.toInt_inj, Int64.reduceToInt, Int32.toInt_toInt64, lg_cmp_ge, lg_cmp_le, lg_cmp_gt, lg_cmp_lt, lg_cmp_eq, Bool.false_eq_true, Bool.true_eq_false, reduceCtorEq, false_iff, true_iff, iff_true, iff_false, and_true, true_and, and_false, false_and, reduceIte, ite_true, ite_false, eq_self] at *)) <;> omega), trivial⟩
        exact hi15 _ _ _ _ ⟨Fs3, (khi5_0), (by ((try simp only [vp_in_iff, Int32.lt_iff_toInt_lt, Int32.le_iff_toInt_le, ← Int32.toInt_inj, Int32.reduceToInt, n_1, n_2, n_8, Int32.toNatClampNeg, Int64.lt_iff_toInt_lt, Int64.le_iff_toInt_le, ← Int64.toInt_inj, Int64.reduceToInt, Int32.toInt_toInt64, lg_cmp_ge, lg_cmp_le, lg_cmp_gt, lg_cmp_lt, lg_cmp_eq, Bool.false_eq_true, Bool.true_eq_false, reduceCtorEq, false_iff, true_iff, iff_true, iff_false, and_true, true_and, and_false, false_and, reduceIte, ite_true, ite_false, eq_self] at *)) <;> omega), (by ((try simp only [vp_in_iff, Int32.lt_iff_toInt_lt, Int32.le_iff_toInt_le, ← Int32.toInt_inj, Int32.reduceToInt, n_1, n_2, n_8, Int32.toNatClampNeg, Int64.lt_iff_toInt_lt, Int64.le_iff_toInt_le, ← Int64.toInt_inj, Int64.reduceToInt, Int32.toInt_toInt64, lg_cmp_ge, lg_cmp_le, lg_cmp_gt, lg_cmp_lt, lg_cmp_eq, Bool.false_eq_true, Bool.true_eq_false, reduceCtorEq, false_iff, true_iff, iff_true, iff_false, and_true, true_and, and_false, false_and, reduceIte, ite_true, ite_false, eq_self] at *)) <;> omega), trivial⟩ rfl
      · have mh6 := nle_mx h6
        refine wa_iload_n (i := 2) rfl rfl ?_
        refine wa_bipush (v := 31) (by decide) ?_
        refine wa_imul ?_
        refine wa_top (fun v28 hv28 => ?_)
        have tv28 := i_mulT hv28
        clear hv28
        refine wa_aload_n (i := 0) rfl rfl ?_
        refine wa_aload_n (i := 0) rfl rfl ?_
        refine wa_getr ck_5 fl_5_37 ly_51 rf_51_0 ?_
        refine wa_iload_n (i := 1) rfl rfl ?_
        refine wa_iload_n (i := 3) rfl rfl ?_
        refine wa_Vi (d9 := d - 1) [.int _, .int _] [.ref 51, .int v28] (sp_X6_behind G (d := d - 1) (by omega) s3 _ _) (rfl) rfl rfl (zr (by omega)) mk_X6_behind ly_31 ml_5_96 (Nat.le_of_ble_eq_true rfl) (fun x30 s29 hs29 => ?_)
        obtain ⟨zs29, -⟩ := pI hs29
        subst zs29
        refine wa_Vi (d9 := d - 1) [.int _] [.int v28] (sp_X5_sortOf G (d := d - 1) (by omega) s3 _) (rfl) rfl rfl (zr (by omega)) mk_X5_sortOf ly_51 ml_5_90 (Nat.le_of_ble_eq_true rfl) (fun x32 s31 hs31 => ?_)
        obtain ⟨zs31, -⟩ := pI hs31
        subst zs31
        refine wa_iadd ?_
        refine wa_top (fun v33 hv33 => ?_)
        have tv33 := i_addT hv33
        clear hv33
        refine wa_istore_nD (lv' := [(2, .int v33), (0, .ref 51), (1, .int a0), (3, .int l3)]) (i := 2) rfl (by decide) rfl ?_
        refine wa_iinc (v := (1)) (lv' := fun y34 => [(3, .int y34), (2, .int v33), (0, .ref 51), (1, .int a0)]) (by decide) rfl (by decide) (fun _ => rfl) (fun y34 hy34 => ?_)
        have ty34 := i_addT hy34.symm
        clear hy34
        refine wa_goto o_X5_likeOf_8 (by decide) ?_
        refine wa_pick [2, 3, 1, 0] rfl ?_
        exact ih4 _ (by ((try simp only [vp_in_iff, Int32.lt_iff_toInt_lt, Int32.le_iff_toInt_le, ← Int32.toInt_inj, Int32.reduceToInt, n_1, n_2, n_8, Int32.toNatClampNeg, Int64.lt_iff_toInt_lt, Int64.le_iff_toInt_le, ← Int64.toInt_inj, Int64.reduceToInt, Int32.toInt_toInt64, lg_cmp_ge, lg_cmp_le, lg_cmp_gt, lg_cmp_lt, lg_cmp_eq, Bool.false_eq_true, Bool.true_eq_false, reduceCtorEq, false_iff, true_iff, iff_true, iff_false, and_true, true_and, and_false, false_and, reduceIte, ite_true, ite_false, eq_self] at *)) <;> omega) _ _ _ ⟨Fs3, (khi5_0), (by ((try simp only [vp_in_iff, Int32.lt_iff_toInt_lt, Int32.le_iff_toInt_le, ← Int32.toInt_inj, Int32.reduceToInt, n_1, n_2, n_8, Int32.toNatClampNeg, Int64.lt_iff_toInt_lt, Int64.le_iff_toInt_le, ← Int64.toInt_inj, Int64.reduceToInt, Int32.toInt_toInt64, lg_cmp_ge, lg_cmp_le, lg_cmp_gt, lg_cmp_lt, lg_cmp_eq, Bool.false_eq_true, Bool.true_eq_false, reduceCtorEq, false_iff, true_iff, iff_true, iff_false, and_true, true_and, and_false, false_and, reduceIte, ite_true, ite_false, eq_self] at *)) <;> omega), trivial⟩ rfl
  exact hi5 _ _ _ _ ⟨(Sm.rf 55 56 σ), (rfl), (by ((try simp only [vp_in_iff, Int32.lt_iff_toInt_lt, Int32.le_iff_toInt_le, ← Int32.toInt_inj, Int32.reduceToInt, n_1, n_2, n_8, Int32.toNatClampNeg, Int64.lt_iff_toInt_lt, Int64.le_iff_toInt_le, ← Int64.toInt_inj, Int64.reduceToInt, Int32.toInt_toInt64, lg_cmp_ge, lg_cmp_le, lg_cmp_gt, lg_cmp_lt, lg_cmp_eq, Bool.false_eq_true, Bool.true_eq_false, reduceCtorEq, false_iff, true_iff, iff_true, iff_false, and_true, true_and, and_false, false_and, reduceIte, ite_true, ite_false, eq_self] at *)) <;> omega), trivial⟩ rfl
set_option maxHeartbeats 4000000 in
theorem sp_X5_refine (G : kG9) {d : Nat} (hd : 3 ≤ d) (σ : St) (a0 : Int32) (p1 : a0.toInt ≤ 3000 ∧ 0 ≤ a0.toInt) : Ct G M_X5_refine d [.ref 51, .int a0] σ (fun r σ' => ∃ x : Int32, r = some (.int x) ∧ Sm 53 56 σ σ' ∧ True) := by
  refine wa_start (by decide) rfl (Nat.le_of_ble_eq_true rfl) (lv := [(0, .ref 51), (1, .int a0)]) rfl o_X5_refine_0 rfl ?_
  have ua0 := Int32.toInt_lt a0
  have wa0 := Int32.le_toInt a0
  refine wa_aload_n (i := 0) rfl rfl ?_
  refine wa_getr ck_5 fl_5_21 ly_51 rf_51_4 ?_
  refine wa_iconst (v := 0) (by decide) ?_
  refine wa_Sv (d9 := d - 1) [.ref 55, .int _] [] (sp_J7_fill_53178_at_55 G (d := d - 1) (by omega) σ _) (rfl) rfl rfl (zr (by omega)) mk_J7_fill_53178 ml_5_75 (Nat.le_of_ble_eq_true rfl) (fun s1 hs1 => ?_)
  obtain ⟨fs1, -⟩ := hs1
  have Fs1 := Sm.tr (Sm.rf 53 56 σ) (Sm.wd fs1 (lo' := 53) (hi' := 56) (by decide) (by decide))
  refine wa_iconst (v := 0) (by decide) ?_
  refine wa_istore_nD (lv' := [(2, .int 0), (0, .ref 51), (1, .int a0)]) (i := 2) rfl (by decide) rfl ?_
  refine wa_iconst (v := 0) (by decide) ?_
  refine wa_istore_nD (lv' := [(3, .int 0), (2, .int 0), (0, .ref 51), (1, .int a0)]) (i := 3) rfl (by decide) rfl ?_
  refine wa_pick [2, 3, 1, 0] rfl ?_
  have hi5 : ∀ (n9_12 : Nat) (l2 : Int32) (l3 : Int32) (s3 : St), ((Sm 53 56 σ s3) ∧ (0 ≤ l3.toInt) ∧ (True)) → (2147483647 - l3.toInt).toNat = n9_12 → WA G M_X5_refine (ZM G M_X5_refine d (fun r σ' => ∃ x : Int32, r = some (.int x) ∧ Sm 53 56 σ σ' ∧ True)) B_X5_refine_12 [(0, .ref 51), (1, .int a0), (2, .int l2), (3, .int l3)] [] s3 := by
    intro n9_12
    induction n9_12 using Nat.strongRecOn with
    | _ n9_12 ih4 =>
      intro l2 l3 s3 i9 m9_12
      obtain ⟨Fs3, jhi5_0, -⟩ := i9
      have ul2 := Int32.toInt_lt l2
      have wl2 := Int32.le_toInt l2
      have ul3 := Int32.toInt_lt l3
      have wl3 := Int32.le_toInt l3
      refine wa_iload_n (i := 3) rfl rfl ?_
      refine wa_iload_n (i := 1) rfl rfl ?_
      refine wa_icmp_ge o_X5_refine_74 (by decide) (fun h6 => ?_) (fun h6 => ?_)
      · refine wa_aload_n (i := 0) rfl rfl ?_
        refine wa_getr ck_5 fl_5_18 ly_51 rf_51_3 ?_
        refine wa_iconst (v := 0) (by decide) ?_
        refine wa_aload_n (i := 0) rfl rfl ?_
        refine wa_getr ck_5 fl_5_15 ly_51 rf_51_2 ?_
        refine wa_iconst (v := 0) (by decide) ?_
        refine wa_iload_n (i := 1) rfl rfl ?_
        refine wa_sipush (v := 3000) (by decide) ?_
        refine wa_minI zs (allW_in (kT_7 _ (List.mem_of_getElem? (i := 91) rfl)) rfl) (Nat.le_of_ble_eq_true rfl) ?_
        refine wa_top (fun v7 hv7 => ?_)
        have tv7 := i_minI hv7
        clear hv7
        refine wa_copyI zs ly_54 ly_53 (allW_in (kT_7 _ (List.mem_of_getElem? (i := 112) rfl)) rfl) (by ((try simp only [vp_in_iff, Int32.lt_iff_toInt_lt, Int32.le_iff_toInt_le, ← Int32.toInt_inj, Int32.reduceToInt, n_1, n_2, n_8, Int32.toNatClampNeg, Int64.lt_iff_toInt_lt, Int64.le_iff_toInt_le, ← Int64.toInt_inj, Int64.reduceToInt, Int32.toInt_toInt64, lg_cmp_ge, lg_cmp_le, lg_cmp_gt, lg_cmp_lt, lg_cmp_eq, Bool.false_eq_true, Bool.true_eq_false, reduceCtorEq, false_iff, true_iff, iff_true, iff_false, and_true, true_and, and_false, false_and, reduceIte, ite_true, ite_false, eq_self] at *)) <;> omega) (by ((try simp only [vp_in_iff, Int32.lt_iff_toInt_lt, Int32.le_iff_toInt_le, ← Int32.toInt_inj, Int32.reduceToInt, n_1, n_2, n_8, Int32.toNatClampNeg, Int64.lt_iff_toInt_lt, Int64.le_iff_toInt_le, ← Int64.toInt_inj, Int64.reduceToInt, Int32.toInt_toInt64, lg_cmp_ge, lg_cmp_le, lg_cmp_gt, lg_cmp_lt, lg_cmp_eq, Bool.false_eq_true, Bool.true_eq_false, reduceCtorEq, false_iff, true_iff, iff_true, iff_false, and_true, true_and, and_false, false_and, reduceIte, ite_true, ite_false, eq_self] at *)) <;> omega) (by ((try simp only [vp_in_iff, Int32.lt_iff_toInt_lt, Int32.le_iff_toInt_le, ← Int32.toInt_inj, Int32.reduceToInt, n_1, n_2, n_8, Int32.toNatClampNeg, Int64.lt_iff_toInt_lt, Int64.le_iff_toInt_le, ← Int64.toInt_inj, Int64.reduceToInt, Int32.toInt_toInt64, lg_cmp_ge, lg_cmp_le, lg_cmp_gt, lg_cmp_lt, lg_cmp_eq, Bool.false_eq_true, Bool.true_eq_false, reduceCtorEq, false_iff, true_iff, iff_true, iff_false, and_true, true_and, and_false, false_and, reduceIte, ite_true, ite_false, eq_self] at *)) <;> omega) (by ((try simp only [vp_in_iff, Int32.lt_iff_toInt_lt, Int32.le_iff_toInt_le, ← Int32.toInt_inj, Int32.reduceToInt, n_1, n_2, n_8, Int32.toNatClampNeg, Int64.lt_iff_toInt_lt, Int64.le_iff_toInt_le, ← Int64.toInt_inj, Int64.reduceToInt, Int32.toInt_toInt64, lg_cmp_ge, lg_cmp_le, lg_cmp_gt, lg_cmp_lt, lg_cmp_eq, Bool.false_eq_true, Bool.true_eq_false, reduceCtorEq, false_iff, true_iff, iff_true, iff_false, and_true, true_and, and_false, false_and, reduceIte, ite_true, ite_false, eq_self] at *)) <;> omega) (by ((try simp only [vp_in_iff, Int32.lt_iff_toInt_lt, Int32.le_iff_toInt_le, ← Int32.toInt_inj, Int32.reduceToInt, n_1, n_2, n_8, Int32.toNatClampNeg, Int64.lt_iff_toInt_lt, Int64.le_iff_toInt_le, ← Int64.toInt_inj, Int64.reduceToInt, Int32.toInt_toInt64, lg_cmp_ge, lg_cmp_le, lg_cmp_gt, lg_cmp_lt, lg_cmp_eq, Bool.false_eq_true, Bool.true_eq_false, reduceCtorEq, false_iff, true_iff, iff_true, iff_false, and_true, true_and, and_false, false_and, reduceIte, ite_true, ite_false, eq_self] at *)) <;> omega) (Nat.le_of_ble_eq_true rfl) (fun s8 hs8 => ?_)
        have Fs8 : Sm 53 56 σ s8 := by rw [hs8]; exact Sm.ri Fs3 _ (by decide) (by decide)
        refine wa_iload_n (i := 2) rfl rfl ?_
        refine wa_ireturn rfl rfl ?_
        exact ⟨_, rfl, Fs8, trivial⟩
      · have mh6 := nle_mx h6
        refine wa_iload_n (i := 3) rfl rfl ?_
        refine wa_sipush (v := 3000) (by decide) ?_
        refine wa_icmp_ge o_X5_refine_74 (by decide) (fun h9 => ?_) (fun h9 => ?_)
        · refine wa_aload_n (i := 0) rfl rfl ?_
          refine wa_getr ck_5 fl_5_18 ly_51 rf_51_3 ?_
          refine wa_iconst (v := 0) (by decide) ?_
          refine wa_aload_n (i := 0) rfl rfl ?_
          refine wa_getr ck_5 fl_5_15 ly_51 rf_51_2 ?_
          refine wa_iconst (v := 0) (by decide) ?_
          refine wa_iload_n (i := 1) rfl rfl ?_
          refine wa_sipush (v := 3000) (by decide) ?_
          refine wa_minI zs (allW_in (kT_7 _ (List.mem_of_getElem? (i := 91) rfl)) rfl) (Nat.le_of_ble_eq_true rfl) ?_
          refine wa_top (fun v10 hv10 => ?_)
          have tv10 := i_minI hv10
          clear hv10
          refine wa_copyI zs ly_54 ly_53 (allW_in (kT_7 _ (List.mem_of_getElem? (i := 112) rfl)) rfl) (by ((try simp only [vp_in_iff, Int32.lt_iff_toInt_lt, Int32.le_iff_toInt_le, ← Int32.toInt_inj, Int32.reduceToInt, n_1, n_2, n_8, Int32.toNatClampNeg, Int64.lt_iff_toInt_lt, Int64.le_iff_toInt_le, ← Int64.toInt_inj, Int64.reduceToInt, Int32.toInt_toInt64, lg_cmp_ge, lg_cmp_le, lg_cmp_gt, lg_cmp_lt, lg_cmp_eq, Bool.false_eq_true, Bool.true_eq_false, reduceCtorEq, false_iff, true_iff, iff_true, iff_false, and_true, true_and, and_false, false_and, reduceIte, ite_true, ite_false, eq_self] at *)) <;> omega) (by ((try simp only [vp_in_iff, Int32.lt_iff_toInt_lt, Int32.le_iff_toInt_le, ← Int32.toInt_inj, Int32.reduceToInt, n_1, n_2, n_8, Int32.toNatClampNeg, Int64.lt_iff_toInt_lt, Int64.le_iff_toInt_le, ← Int64.toInt_inj, Int64.reduceToInt, Int32.toInt_toInt64, lg_cmp_ge, lg_cmp_le, lg_cmp_gt, lg_cmp_lt, lg_cmp_eq, Bool.false_eq_true, Bool.true_eq_false, reduceCtorEq, false_iff, true_iff, iff_true, iff_false, and_true, true_and, and_false, false_and, reduceIte, ite_true, ite_false, eq_self] at *)) <;> omega) (by ((try simp only [vp_in_iff, Int32.lt_iff_toInt_lt, Int32.le_iff_toInt_le, ← Int32.toInt_inj, Int32.reduceToInt, n_1, n_2, n_8, Int32.toNatClampNeg, Int64.lt_iff_toInt_lt, Int64.le_iff_toInt_le, ← Int64.toInt_inj, Int64.reduceToInt, Int32.toInt_toInt64, lg_cmp_ge, lg_cmp_le, lg_cmp_gt, lg_cmp_lt, lg_cmp_eq, Bool.false_eq_true, Bool.true_eq_false, reduceCtorEq, false_iff, true_iff, iff_true, iff_false, and_true, true_and, and_false, false_and, reduceIte, ite_true, ite_false, eq_self] at *)) <;> omega) (by ((try simp only [vp_in_iff, Int32.lt_iff_toInt_lt, Int32.le_iff_toInt_le, ← Int32.toInt_inj, Int32.reduceToInt, n_1, n_2, n_8, Int32.toNatClampNeg, Int64.lt_iff_toInt_lt, Int64.le_iff_toInt_le, ← Int64.toInt_inj, Int64.reduceToInt, Int32.toInt_toInt64, lg_cmp_ge, lg_cmp_le, lg_cmp_gt, lg_cmp_lt, lg_cmp_eq, Bool.false_eq_true, Bool.true_eq_false, reduceCtorEq, false_iff, true_iff, iff_true, iff_false, and_true, true_and, and_false, false_and, reduceIte, ite_true, ite_false, eq_self] at *)) <;> omega) (by ((try simp only [vp_in_iff, Int32.lt_iff_toInt_lt, Int32.le_iff_toInt_le, ← Int32.toInt_inj, Int32.reduceToInt, n_1, n_2, n_8, Int32.toNatClampNeg, Int64.lt_iff_toInt_lt, Int64.le_iff_toInt_le, ← Int64.toInt_inj, Int64.reduceToInt, Int32.toInt_toInt64, lg_cmp_ge, lg_cmp_le, lg_cmp_gt, lg_cmp_lt, lg_cmp_eq, Bool.false_eq_true, Bool.true_eq_false, reduceCtorEq, false_iff, true_iff, iff_true, iff_false, and_true, true_and, and_false, false_and, reduceIte, ite_true, ite_false, eq_self] at *)) <;> omega) (Nat.le_of_ble_eq_true rfl) (fun s11 hs11 => ?_)
          have Fs11 : Sm 53 56 σ s11 := by rw [hs11]; exact Sm.ri Fs3 _ (by decide) (by decide)
          refine wa_iload_n (i := 2) rfl rfl ?_
          refine wa_ireturn rfl rfl ?_
          exact ⟨_, rfl, Fs11, trivial⟩
        · have mh9 := nle_mx h9
          refine wa_aload_n (i := 0) rfl rfl ?_
          refine wa_iload_n (i := 3) rfl rfl ?_
          refine wa_Vi (d9 := d - 1) [.int _] [] (sp_X5_likeOf G (d := d - 1) (by omega) s3 _ (by ((try simp only [vp_in_iff, Int32.lt_iff_toInt_lt, Int32.le_iff_toInt_le, ← Int32.toInt_inj, Int32.reduceToInt, n_1, n_2, n_8, Int32.toNatClampNeg, Int64.lt_iff_toInt_lt, Int64.le_iff_toInt_le, ← Int64.toInt_inj, Int64.reduceToInt, Int32.toInt_toInt64, lg_cmp_ge, lg_cmp_le, lg_cmp_gt, lg_cmp_lt, lg_cmp_eq, Bool.false_eq_true, Bool.true_eq_false, reduceCtorEq, false_iff, true_iff, iff_true, iff_false, and_true, true_and, and_false, false_and, reduceIte, ite_true, ite_false, eq_self] at *)) <;> omega)) (rfl) rfl rfl (zr (by omega)) mk_X5_likeOf ly_51 ml_5_81 (Nat.le_of_ble_eq_true rfl) (fun x13 s12 hs12 => ?_)
          obtain ⟨fs12, cx13_1, -⟩ := pI hs12
          have Fs12 := Sm.tr Fs3 (Sm.wd fs12 (lo' := 53) (hi' := 56) (by decide) (by decide))
          refine wa_istoreD (lv' := [(4, .int x13), (0, .ref 51), (1, .int a0), (2, .int l2), (3, .int l3)]) (by decide) rfl ?_
          refine wa_aload_n (i := 0) rfl rfl ?_
          refine wa_getr ck_5 fl_5_18 ly_51 rf_51_3 ?_
          refine wa_iload_n (i := 3) rfl rfl ?_
          refine wa_iload rfl ?_
          refine wa_iload_n (i := 3) rfl rfl ?_
          refine wa_icmp_ne o_X5_refine_46 (by decide) (fun h14 => ?_) (fun h14 => ?_)
          · refine wa_aload_n (i := 0) rfl rfl ?_
            refine wa_getr ck_5 fl_5_18 ly_51 rf_51_3 ?_
            refine wa_iload rfl ?_
            refine wa_iald ly_54 (by ((try simp only [vp_in_iff, Int32.lt_iff_toInt_lt, Int32.le_iff_toInt_le, ← Int32.toInt_inj, Int32.reduceToInt, n_1, n_2, n_8, Int32.toNatClampNeg, Int64.lt_iff_toInt_lt, Int64.le_iff_toInt_le, ← Int64.toInt_inj, Int64.reduceToInt, Int32.toInt_toInt64, lg_cmp_ge, lg_cmp_le, lg_cmp_gt, lg_cmp_lt, lg_cmp_eq, Bool.false_eq_true, Bool.true_eq_false, reduceCtorEq, false_iff, true_iff, iff_true, iff_false, and_true, true_and, and_false, false_and, reduceIte, ite_true, ite_false, eq_self] at *)) <;> omega) ?_
            refine wa_iast ly_54 (by ((try simp only [vp_in_iff, Int32.lt_iff_toInt_lt, Int32.le_iff_toInt_le, ← Int32.toInt_inj, Int32.reduceToInt, n_1, n_2, n_8, Int32.toNatClampNeg, Int64.lt_iff_toInt_lt, Int64.le_iff_toInt_le, ← Int64.toInt_inj, Int64.reduceToInt, Int32.toInt_toInt64, lg_cmp_ge, lg_cmp_le, lg_cmp_gt, lg_cmp_lt, lg_cmp_eq, Bool.false_eq_true, Bool.true_eq_false, reduceCtorEq, false_iff, true_iff, iff_true, iff_false, and_true, true_and, and_false, false_and, reduceIte, ite_true, ite_false, eq_self] at *)) <;> omega) (fun s15 hs15 => ?_)
            have Fs15 : Sm 53 56 σ s15 := by rw [hs15]; exact Sm.si Fs12 _ _ (by decide) (by decide)
            refine wa_iload_n (i := 2) rfl rfl ?_
            refine wa_iload rfl ?_
            refine wa_iload_n (i := 3) rfl rfl ?_
            refine wa_icmp_ne o_X5_refine_65 (by decide) (fun h16 => ?_) (fun h16 => ?_)
            · refine wa_iconst (v := 0) (by decide) ?_
              refine wa_iadd ?_
              refine wa_top (fun v17 hv17 => ?_)
              have tv17 := i_addT hv17
              clear hv17
              refine wa_istore_nD (lv' := [(2, .int v17), (4, .int x13), (0, .ref 51), (1, .int a0), (3, .int l3)]) (i := 2) rfl (by decide) rfl ?_
              refine wa_iinc (v := (1)) (lv' := fun y18 => [(3, .int y18), (2, .int v17), (4, .int x13), (0, .ref 51), (1, .int a0)]) (by decide) rfl (by decide) (fun _ => rfl) (fun y18 hy18 => ?_)
              have ty18 := i_addT hy18.symm
              clear hy18
              refine wa_goto o_X5_refine_12 (by decide) ?_
              refine wa_pick [3, 4, 1, 0] rfl ?_
              exact ih4 _ (by ((try simp only [vp_in_iff, Int32.lt_iff_toInt_lt, Int32.le_iff_toInt_le, ← Int32.toInt_inj, Int32.reduceToInt, n_1, n_2, n_8, Int32.toNatClampNeg, Int64.lt_iff_toInt_lt, Int64.le_iff_toInt_le, ← Int64.toInt_inj, Int64.reduceToInt, Int32.toInt_toInt64, lg_cmp_ge, lg_cmp_le, lg_cmp_gt, lg_cmp_lt, lg_cmp_eq, Bool.false_eq_true, Bool.true_eq_false, reduceCtorEq, false_iff, true_iff, iff_true, iff_false, and_true, true_and, and_false, false_and, reduceIte, ite_true, ite_false, eq_self] at *)) <;> omega) _ _ _ ⟨Fs15, (by ((try simp only [vp_in_iff, Int32.lt_iff_toInt_lt, Int32.le_iff_toInt_le, ← Int32.toInt_inj, Int32.reduceToInt, n_1, n_2, n_8, Int32.toNatClampNeg, Int64.lt_iff_toInt_lt, Int64.le_iff_toInt_le, ← Int64.toInt_inj, Int64.reduceToInt, Int32.toInt_toInt64, lg_cmp_ge, lg_cmp_le, lg_cmp_gt, lg_cmp_lt, lg_cmp_eq, Bool.false_eq_true, Bool.true_eq_false, reduceCtorEq, false_iff, true_iff, iff_true, iff_false, and_true, true_and, and_false, false_and, reduceIte, ite_true, ite_false, eq_self] at *)) <;> omega), trivial⟩ rfl
            · refine wa_iconst (v := 1) (by decide) ?_
              refine wa_goto o_X5_refine_66 (by decide) ?_
              refine wa_iadd ?_
              refine wa_top (fun v19 hv19 => ?_)
              have tv19 := i_addT hv19
              clear hv19
              refine wa_istore_nD (lv' := [(2, .int v19), (4, .int x13), (0, .ref 51), (1, .int a0), (3, .int l3)]) (i := 2) rfl (by decide) rfl ?_
              refine wa_iinc (v := (1)) (lv' := fun y20 => [(3, .int y20), (2, .int v19), (4, .int x13), (0, .ref 51), (1, .int a0)]) (by decide) rfl (by decide) (fun _ => rfl) (fun y20 hy20 => ?_)
              have ty20 := i_addT hy20.symm
              clear hy20
              refine wa_goto o_X5_refine_12 (by decide) ?_
              refine wa_pick [3, 4, 1, 0] rfl ?_
              exact ih4 _ (by ((try simp only [vp_in_iff, Int32.lt_iff_toInt_lt, Int32.le_iff_toInt_le, ← Int32.toInt_inj, Int32.reduceToInt, n_1, n_2, n_8, Int32.toNatClampNeg, Int64.lt_iff_toInt_lt, Int64.le_iff_toInt_le, ← Int64.toInt_inj, Int64.reduceToInt, Int32.toInt_toInt64, lg_cmp_ge, lg_cmp_le, lg_cmp_gt, lg_cmp_lt, lg_cmp_eq, Bool.false_eq_true, Bool.true_eq_false, reduceCtorEq, false_iff, true_iff, iff_true, iff_false, and_true, true_and, and_false, false_and, reduceIte, ite_true, ite_false, eq_self] at *)) <;> omega) _ _ _ ⟨Fs15, (by ((try simp only [vp_in_iff, Int32.lt_iff_toInt_lt, Int32.le_iff_toInt_le, ← Int32.toInt_inj, Int32.reduceToInt, n_1, n_2, n_8, Int32.toNatClampNeg, Int64.lt_iff_toInt_lt, Int64.le_iff_toInt_le, ← Int64.toInt_inj, Int64.reduceToInt, Int32.toInt_toInt64, lg_cmp_ge, lg_cmp_le, lg_cmp_gt, lg_cmp_lt, lg_cmp_eq, Bool.false_eq_true, Bool.true_eq_false, reduceCtorEq, false_iff, true_iff, iff_true, iff_false, and_true, true_and, and_false, false_and, reduceIte, ite_true, ite_false, eq_self] at *)) <;> omega), trivial⟩ rfl
          · refine wa_iload_n (i := 2) rfl rfl ?_
            refine wa_goto o_X5_refine_53 (by decide) ?_
            refine wa_iast ly_54 (by ((try simp only [vp_in_iff, Int32.lt_iff_toInt_lt, Int32.le_iff_toInt_le, ← Int32.toInt_inj, Int32.reduceToInt, n_1, n_2, n_8, Int32.toNatClampNeg, Int64.lt_iff_toInt_lt, Int64.le_iff_toInt_le, ← Int64.toInt_inj, Int64.reduceToInt, Int32.toInt_toInt64, lg_cmp_ge, lg_cmp_le, lg_cmp_gt, lg_cmp_lt, lg_cmp_eq, Bool.false_eq_true, Bool.true_eq_false, reduceCtorEq, false_iff, true_iff, iff_true, iff_false, and_true, true_and, and_false, false_and, reduceIte, ite_true, ite_false, eq_self] at *)) <;> omega) (fun s21 hs21 => ?_)
            have Fs21 : Sm 53 56 σ s21 := by rw [hs21]; exact Sm.si Fs12 _ _ (by decide) (by decide)
            refine wa_iload_n (i := 2) rfl rfl ?_
            refine wa_iload rfl ?_
            refine wa_iload_n (i := 3) rfl rfl ?_
            refine wa_icmp_ne o_X5_refine_65 (by decide) (fun h22 => ?_) (fun h22 => ?_)
            · refine wa_iconst (v := 0) (by decide) ?_
              refine wa_iadd ?_
              refine wa_top (fun v23 hv23 => ?_)
              have tv23 := i_addT hv23
              clear hv23
              refine wa_istore_nD (lv' := [(2, .int v23), (4, .int x13), (0, .ref 51), (1, .int a0), (3, .int l3)]) (i := 2) rfl (by decide) rfl ?_
              refine wa_iinc (v := (1)) (lv' := fun y24 => [(3, .int y24), (2, .int v23), (4, .int x13), (0, .ref 51), (1, .int a0)]) (by decide) rfl (by decide) (fun _ => rfl) (fun y24 hy24 => ?_)
              have ty24 := i_addT hy24.symm
              clear hy24
              refine wa_goto o_X5_refine_12 (by decide) ?_
              refine wa_pick [3, 4, 1, 0] rfl ?_
              exact ih4 _ (by ((try simp only [vp_in_iff, Int32.lt_iff_toInt_lt, Int32.le_iff_toInt_le, ← Int32.toInt_inj, Int32.reduceToInt, n_1, n_2, n_8, Int32.toNatClampNeg, Int64.lt_iff_toInt_lt, Int64.le_iff_toInt_le, ← Int64.toInt_inj, Int64.reduceToInt, Int32.toInt_toInt64, lg_cmp_ge, lg_cmp_le, lg_cmp_gt, lg_cmp_lt, lg_cmp_eq, Bool.false_eq_true, Bool.true_eq_false, reduceCtorEq, false_iff, true_iff, iff_true, iff_false, and_true, true_and, and_false, false_and, reduceIte, ite_true, ite_false, eq_self] at *)) <;> omega) _ _ _ ⟨Fs21, (by ((try simp only [vp_in_iff, Int32.lt_iff_toInt_lt, Int32.le_iff_toInt_le, ← Int32.toInt_inj, Int32.reduceToInt, n_1, n_2, n_8, Int32.toNatClampNeg, Int64.lt_iff_toInt_lt, Int64.le_iff_toInt_le, ← Int64.toInt_inj, Int64.reduceToInt, Int32.toInt_toInt64, lg_cmp_ge, lg_cmp_le, lg_cmp_gt, lg_cmp_lt, lg_cmp_eq, Bool.false_eq_true, Bool.true_eq_false, reduceCtorEq, false_iff, true_iff, iff_true, iff_false, and_true, true_and, and_false, false_and, reduceIte, ite_true, ite_false, eq_self] at *)) <;> omega), trivial⟩ rfl
            · refine wa_iconst (v := 1) (by decide) ?_
              refine wa_goto o_X5_refine_66 (by decide) ?_
              refine wa_iadd ?_
              refine wa_top (fun v25 hv25 => ?_)
              have tv25 := i_addT hv25
              clear hv25
              refine wa_istore_nD (lv' := [(2, .int v25), (4, .int x13), (0, .ref 51), (1, .int a0), (3, .int l3)]) (i := 2) rfl (by decide) rfl ?_
              refine wa_iinc (v := (1)) (lv' := fun y26 => [(3, .int y26), (2, .int v25), (4, .int x13), (0, .ref 51), (1, .int a0)]) (by decide) rfl (by decide) (fun _ => rfl) (fun y26 hy26 => ?_)
              have ty26 := i_addT hy26.symm
              clear hy26
              refine wa_goto o_X5_refine_12 (by decide) ?_
              refine wa_pick [3, 4, 1, 0] rfl ?_
              exact ih4 _ (by ((try simp only [vp_in_iff, Int32.lt_iff_toInt_lt, Int32.le_iff_toInt_le, ← Int32.toInt_inj, Int32.reduceToInt, n_1, n_2, n_8, Int32.toNatClampNeg, Int64.lt_iff_toInt_lt, Int64.le_iff_toInt_le, ← Int64.toInt_inj, Int64.reduceToInt, Int32.toInt_toInt64, lg_cmp_ge, lg_cmp_le, lg_cmp_gt, lg_cmp_lt, lg_cmp_eq, Bool.false_eq_true, Bool.true_eq_false, reduceCtorEq, false_iff, true_iff, iff_true, iff_false, and_true, true_and, and_false, false_and, reduceIte, ite_true, ite_false, eq_self] at *)) <;> omega) _ _ _ ⟨Fs21, (by ((try simp only [vp_in_iff, Int32.lt_iff_toInt_lt, Int32.le_iff_toInt_le, ← Int32.toInt_inj, Int32.reduceToInt, n_1, n_2, n_8, Int32.toNatClampNeg, Int64.lt_iff_toInt_lt, Int64.le_iff_toInt_le, ← Int64.toInt_inj, Int64.reduceToInt, Int32.toInt_toInt64, lg_cmp_ge, lg_cmp_le, lg_cmp_gt, lg_cmp_lt, lg_cmp_eq, Bool.false_eq_true, Bool.true_eq_false, reduceCtorEq, false_iff, true_iff, iff_true, iff_false, and_true, true_and, and_false, false_and, reduceIte, ite_true, ite_false, eq_self] at *)) <;> omega), trivial⟩ rfl
  exact hi5 _ _ _ _ ⟨Fs1, (by ((try simp only [vp_in_iff, Int32.lt_iff_toInt_lt, Int32.le_iff_toInt_le, ← Int32.toInt_inj, Int32.reduceToInt, n_1, n_2, n_8, Int32.toNatClampNeg, Int64.lt_iff_toInt_lt, Int64.le_iff_toInt_le, ← Int64.toInt_inj, Int64.reduceToInt, Int32.toInt_toInt64, lg_cmp_ge, lg_cmp_le, lg_cmp_gt, lg_cmp_lt, lg_cmp_eq, Bool.false_eq_true, Bool.true_eq_false, reduceCtorEq, false_iff, true_iff, iff_true, iff_false, and_true, true_and, and_false, false_and, reduceIte, ite_true, ite_false, eq_self] at *)) <;> omega), trivial⟩ rfl
set_option maxRecDepth 100000 in
set_option maxHeartbeats 4000000 in
theorem sp_J7_fill_53178_at_56 (G : kG9) {d : Nat} (hd : 0 ≤ d) (σ : St) (a1 : Int32) : Ct G M_J7_fill_53178 d [.ref 56, .int a1] σ (fun r σ' => Sm 56 57 σ σ' ∧ True) := by
  refine wa_startF (by decide +kernel) rfl (Nat.le_of_ble_eq_true rfl) (lv := [(0, .ref 56), (1, .int a1)]) rfl o_J7_fill_53178_0 rfl ?_
  have ua1 := Int32.toInt_lt a1
  have wa1 := Int32.le_toInt a1
  refine wa_iconst (v := 0) (by decide) ?_
  refine wa_istore_nD (lv' := [(2, .int 0), (0, .ref 56), (1, .int a1)]) (i := 2) rfl (by decide) rfl ?_
  refine wa_aload_n (i := 0) rfl rfl ?_
  refine wa_alen ly_56 (by decide) ?_
  refine wa_rw (show Int32.ofNat 3000 = 3000 from rfl) ?_
  refine wa_istore_nD (lv' := [(3, .int 3000), (2, .int 0), (0, .ref 56), (1, .int a1)]) (i := 3) rfl (by decide) rfl ?_
  refine wa_pick [2, 3, 1, 0] rfl ?_
  have hi3 : ∀ (n9_5 : Nat) (l2 : Int32) (s1 : St), ((Sm 56 57 σ s1) ∧ (0 ≤ l2.toInt) ∧ (True)) → (2147483647 - l2.toInt).toNat = n9_5 → WA G M_J7_fill_53178 (ZM G M_J7_fill_53178 d (fun r σ' => Sm 56 57 σ σ' ∧ True)) B_J7_fill_53178_5 [(0, .ref 56), (1, .int a1), (2, .int l2), (3, .int 3000)] [] s1 := by
    intro n9_5
    induction n9_5 using Nat.strongRecOn with
    | _ n9_5 ih2 =>
      intro l2 s1 i9 m9_5
      obtain ⟨Fs1, jhi3_0, -⟩ := i9
      have ul2 := Int32.toInt_lt l2
      have wl2 := Int32.le_toInt l2
      refine wa_iload_n (i := 2) rfl rfl ?_
      refine wa_iload_n (i := 3) rfl rfl ?_
      refine wa_icmp_ge o_J7_fill_53178_20 (by decide) (fun h4 => ?_) (fun h4 => ?_)
      · refine wa_return (st := []) rfl rfl ?_
        exact ⟨Fs1, trivial⟩
      · have mh4 := nle_mx h4
        refine wa_aload_n (i := 0) rfl rfl ?_
        refine wa_iload_n (i := 2) rfl rfl ?_
        refine wa_iload_n (i := 1) rfl rfl ?_
        refine wa_iast ly_56 (by ((try simp only [vp_in_iff, Int32.lt_iff_toInt_lt, Int32.le_iff_toInt_le, ← Int32.toInt_inj, Int32.reduceToInt, n_1, n_2, n_8, Int32.toNatClampNeg, Int64.lt_iff_toInt_lt, Int64.le_iff_toInt_le, ← Int64.toInt_inj, Int64.reduceToInt, Int32.toInt_toInt64, lg_cmp_ge, lg_cmp_le, lg_cmp_gt, lg_cmp_lt, lg_cmp_eq, Bool.false_eq_true, Bool.true_eq_false, reduceCtorEq, false_iff, true_iff, iff_true, iff_false, and_true, true_and, and_false, false_and, reduceIte, ite_true, ite_false, eq_self] at *)) <;> omega) (fun s5 hs5 => ?_)
        have Fs5 : Sm 56 57 σ s5 := by rw [hs5]; exact Sm.si Fs1 _ _ (by decide) (by decide)
        refine wa_iinc (v := (1)) (lv' := fun y6 => [(2, .int y6), (0, .ref 56), (1, .int a1), (3, .int 3000)]) (by decide) rfl (by decide) (fun _ => rfl) (fun y6 hy6 => ?_)
        have ty6 := i_addT hy6.symm
        clear hy6
        refine wa_goto o_J7_fill_53178_5 (by decide) ?_
        refine wa_pick [1, 2, 0, 3] rfl ?_
        exact ih2 _ (by ((try simp only [vp_in_iff, Int32.lt_iff_toInt_lt, Int32.le_iff_toInt_le, ← Int32.toInt_inj, Int32.reduceToInt, n_1, n_2, n_8, Int32.toNatClampNeg, Int64.lt_iff_toInt_lt, Int64.le_iff_toInt_le, ← Int64.toInt_inj, Int64.reduceToInt, Int32.toInt_toInt64, lg_cmp_ge, lg_cmp_le, lg_cmp_gt, lg_cmp_lt, lg_cmp_eq, Bool.false_eq_true, Bool.true_eq_false, reduceCtorEq, false_iff, true_iff, iff_true, iff_false, and_true, true_and, and_false, false_and, reduceIte, ite_true, ite_false, eq_self] at *)) <;> omega) _ _ ⟨Fs5, (by ((try simp only [vp_in_iff, Int32.lt_iff_toInt_lt, Int32.le_iff_toInt_le, ← Int32.toInt_inj, Int32.reduceToInt, n_1, n_2, n_8, Int32.toNatClampNeg, Int64.lt_iff_toInt_lt, Int64.le_iff_toInt_le, ← Int64.toInt_inj, Int64.reduceToInt, Int32.toInt_toInt64, lg_cmp_ge, lg_cmp_le, lg_cmp_gt, lg_cmp_lt, lg_cmp_eq, Bool.false_eq_true, Bool.true_eq_false, reduceCtorEq, false_iff, true_iff, iff_true, iff_false, and_true, true_and, and_false, false_and, reduceIte, ite_true, ite_false, eq_self] at *)) <;> omega), trivial⟩ rfl
  exact hi3 _ _ _ ⟨(Sm.rf 56 57 σ), (by ((try simp only [vp_in_iff, Int32.lt_iff_toInt_lt, Int32.le_iff_toInt_le, ← Int32.toInt_inj, Int32.reduceToInt, n_1, n_2, n_8, Int32.toNatClampNeg, Int64.lt_iff_toInt_lt, Int64.le_iff_toInt_le, ← Int64.toInt_inj, Int64.reduceToInt, Int32.toInt_toInt64, lg_cmp_ge, lg_cmp_le, lg_cmp_gt, lg_cmp_lt, lg_cmp_eq, Bool.false_eq_true, Bool.true_eq_false, reduceCtorEq, false_iff, true_iff, iff_true, iff_false, and_true, true_and, and_false, false_and, reduceIte, ite_true, ite_false, eq_self] at *)) <;> omega), trivial⟩ rfl
set_option maxHeartbeats 4000000 in
theorem sp_X5_addState (G : kG9) {d : Nat} (hd : 1 ≤ d) (σ : St) (a0 : Int32) : Ct G M_X5_addState d [.ref 51, .int a0] σ (fun r σ' => ∃ x : Int32, r = some (.int x) ∧ Sm 51 60 σ σ' ∧ True) := by
  refine wa_start (by decide) rfl (Nat.le_of_ble_eq_true rfl) (lv := [(0, .ref 51), (1, .int a0)]) rfl o_X5_addState_0 rfl ?_
  have ua0 := Int32.toInt_lt a0
  have wa0 := Int32.le_toInt a0
  refine wa_iconst (v := 0) (by decide) ?_
  refine wa_aload_n (i := 0) rfl rfl ?_
  refine wa_iload_n (i := 1) rfl rfl ?_
  refine wa_Vi (d9 := d - 1) [.int _] [.int 0] (sp_X5_sortOf G (d := d - 1) (by omega) σ _) (rfl) rfl rfl (zr (by omega)) mk_X5_sortOf ly_51 ml_5_90 (Nat.le_of_ble_eq_true rfl) (fun x2 s1 hs1 => ?_)
  obtain ⟨zs1, -⟩ := pI hs1
  subst zs1
  refine wa_sipush (v := 2999) (by decide) ?_
  refine wa_minI zs (allW_in (kT_7 _ (List.mem_of_getElem? (i := 91) rfl)) rfl) (Nat.le_of_ble_eq_true rfl) ?_
  refine wa_top (fun v3 hv3 => ?_)
  have tv3 := i_minI hv3
  clear hv3
  refine wa_maxI zs (allW_in (kT_7 _ (List.mem_of_getElem? (i := 121) rfl)) rfl) (Nat.le_of_ble_eq_true rfl) ?_
  refine wa_top (fun v4 hv4 => ?_)
  have tv4 := i_maxI hv4
  clear hv4
  refine wa_istore_nD (lv' := [(2, .int v4), (0, .ref 51), (1, .int a0)]) (i := 2) rfl (by decide) rfl ?_
  refine wa_aload_n (i := 0) rfl rfl ?_
  refine wa_getr ck_5 fl_5_24 ly_51 rf_51_5 ?_
  refine wa_iload_n (i := 2) rfl rfl ?_
  refine wa_iald ly_56 (by ((try simp only [vp_in_iff, Int32.lt_iff_toInt_lt, Int32.le_iff_toInt_le, ← Int32.toInt_inj, Int32.reduceToInt, n_1, n_2, n_8, Int32.toNatClampNeg, Int64.lt_iff_toInt_lt, Int64.le_iff_toInt_le, ← Int64.toInt_inj, Int64.reduceToInt, Int32.toInt_toInt64, lg_cmp_ge, lg_cmp_le, lg_cmp_gt, lg_cmp_lt, lg_cmp_eq, Bool.false_eq_true, Bool.true_eq_false, reduceCtorEq, false_iff, true_iff, iff_true, iff_false, and_true, true_and, and_false, false_and, reduceIte, ite_true, ite_false, eq_self] at *)) <;> omega) ?_
  refine wa_iconst (v := (-1)) (by decide) ?_
  refine wa_icmp_ne o_X5_addState_99 (by decide) (fun h5 => ?_) (fun h5 => ?_)
  · refine wa_aload_n (i := 0) rfl rfl ?_
    refine wa_getr ck_5 fl_5_24 ly_51 rf_51_5 ?_
    refine wa_iload_n (i := 2) rfl rfl ?_
    refine wa_iald ly_56 (by ((try simp only [vp_in_iff, Int32.lt_iff_toInt_lt, Int32.le_iff_toInt_le, ← Int32.toInt_inj, Int32.reduceToInt, n_1, n_2, n_8, Int32.toNatClampNeg, Int64.lt_iff_toInt_lt, Int64.le_iff_toInt_le, ← Int64.toInt_inj, Int64.reduceToInt, Int32.toInt_toInt64, lg_cmp_ge, lg_cmp_le, lg_cmp_gt, lg_cmp_lt, lg_cmp_eq, Bool.false_eq_true, Bool.true_eq_false, reduceCtorEq, false_iff, true_iff, iff_true, iff_false, and_true, true_and, and_false, false_and, reduceIte, ite_true, ite_false, eq_self] at *)) <;> omega) ?_
    refine wa_ireturn rfl rfl ?_
    exact ⟨_, rfl, (Sm.rf 51 60 σ), trivial⟩
  · refine wa_aload_n (i := 0) rfl rfl ?_
    refine wa_geti ck_5 fl_5_41 ly_51 ?_
    refine wa_if_lt o_X5_addState_99 (by decide) (fun h6 => ?_) (fun h6 => ?_)
    · refine wa_aload_n (i := 0) rfl rfl ?_
      refine wa_getr ck_5 fl_5_24 ly_51 rf_51_5 ?_
      refine wa_iload_n (i := 2) rfl rfl ?_
      refine wa_iald ly_56 (by ((try simp only [vp_in_iff, Int32.lt_iff_toInt_lt, Int32.le_iff_toInt_le, ← Int32.toInt_inj, Int32.reduceToInt, n_1, n_2, n_8, Int32.toNatClampNeg, Int64.lt_iff_toInt_lt, Int64.le_iff_toInt_le, ← Int64.toInt_inj, Int64.reduceToInt, Int32.toInt_toInt64, lg_cmp_ge, lg_cmp_le, lg_cmp_gt, lg_cmp_lt, lg_cmp_eq, Bool.false_eq_true, Bool.true_eq_false, reduceCtorEq, false_iff, true_iff, iff_true, iff_false, and_true, true_and, and_false, false_and, reduceIte, ite_true, ite_false, eq_self] at *)) <;> omega) ?_
      refine wa_ireturn rfl rfl ?_
      exact ⟨_, rfl, (Sm.rf 51 60 σ), trivial⟩
    · refine wa_aload_n (i := 0) rfl rfl ?_
      refine wa_geti ck_5 fl_5_41 ly_51 ?_
      refine wa_sipush (v := 3000) (by decide) ?_
      refine wa_icmp_ge o_X5_addState_99 (by decide) (fun h7 => ?_) (fun h7 => ?_)
      · refine wa_aload_n (i := 0) rfl rfl ?_
        refine wa_getr ck_5 fl_5_24 ly_51 rf_51_5 ?_
        refine wa_iload_n (i := 2) rfl rfl ?_
        refine wa_iald ly_56 (by ((try simp only [vp_in_iff, Int32.lt_iff_toInt_lt, Int32.le_iff_toInt_le, ← Int32.toInt_inj, Int32.reduceToInt, n_1, n_2, n_8, Int32.toNatClampNeg, Int64.lt_iff_toInt_lt, Int64.le_iff_toInt_le, ← Int64.toInt_inj, Int64.reduceToInt, Int32.toInt_toInt64, lg_cmp_ge, lg_cmp_le, lg_cmp_gt, lg_cmp_lt, lg_cmp_eq, Bool.false_eq_true, Bool.true_eq_false, reduceCtorEq, false_iff, true_iff, iff_true, iff_false, and_true, true_and, and_false, false_and, reduceIte, ite_true, ite_false, eq_self] at *)) <;> omega) ?_
        refine wa_ireturn rfl rfl ?_
        exact ⟨_, rfl, (Sm.rf 51 60 σ), trivial⟩
      · have mh7 := nle_mx h7
        refine wa_iload_n (i := 1) rfl rfl ?_
        refine wa_if_lt o_X5_addState_99 (by decide) (fun h8 => ?_) (fun h8 => ?_)
        · refine wa_aload_n (i := 0) rfl rfl ?_
          refine wa_getr ck_5 fl_5_24 ly_51 rf_51_5 ?_
          refine wa_iload_n (i := 2) rfl rfl ?_
          refine wa_iald ly_56 (by ((try simp only [vp_in_iff, Int32.lt_iff_toInt_lt, Int32.le_iff_toInt_le, ← Int32.toInt_inj, Int32.reduceToInt, n_1, n_2, n_8, Int32.toNatClampNeg, Int64.lt_iff_toInt_lt, Int64.le_iff_toInt_le, ← Int64.toInt_inj, Int64.reduceToInt, Int32.toInt_toInt64, lg_cmp_ge, lg_cmp_le, lg_cmp_gt, lg_cmp_lt, lg_cmp_eq, Bool.false_eq_true, Bool.true_eq_false, reduceCtorEq, false_iff, true_iff, iff_true, iff_false, and_true, true_and, and_false, false_and, reduceIte, ite_true, ite_false, eq_self] at *)) <;> omega) ?_
          refine wa_ireturn rfl rfl ?_
          exact ⟨_, rfl, (Sm.rf 51 60 σ), trivial⟩
        · refine wa_iload_n (i := 1) rfl rfl ?_
          refine wa_sipush (v := 3000) (by decide) ?_
          refine wa_icmp_ge o_X5_addState_99 (by decide) (fun h9 => ?_) (fun h9 => ?_)
          · refine wa_aload_n (i := 0) rfl rfl ?_
            refine wa_getr ck_5 fl_5_24 ly_51 rf_51_5 ?_
            refine wa_iload_n (i := 2) rfl rfl ?_
            refine wa_iald ly_56 (by ((try simp only [vp_in_iff, Int32.lt_iff_toInt_lt, Int32.le_iff_toInt_le, ← Int32.toInt_inj, Int32.reduceToInt, n_1, n_2, n_8, Int32.toNatClampNeg, Int64.lt_iff_toInt_lt, Int64.le_iff_toInt_le, ← Int64.toInt_inj, Int64.reduceToInt, Int32.toInt_toInt64, lg_cmp_ge, lg_cmp_le, lg_cmp_gt, lg_cmp_lt, lg_cmp_eq, Bool.false_eq_true, Bool.true_eq_false, reduceCtorEq, false_iff, true_iff, iff_true, iff_false, and_true, true_and, and_false, false_and, reduceIte, ite_true, ite_false, eq_self] at *)) <;> omega) ?_
            refine wa_ireturn rfl rfl ?_
            exact ⟨_, rfl, (Sm.rf 51 60 σ), trivial⟩
          · have mh9 := nle_mx h9
            refine wa_aload_n (i := 0) rfl rfl ?_
            refine wa_getr ck_5 fl_5_24 ly_51 rf_51_5 ?_
            refine wa_iload_n (i := 2) rfl rfl ?_
            refine wa_aload_n (i := 0) rfl rfl ?_
            refine wa_geti ck_5 fl_5_41 ly_51 ?_
            refine wa_iast ly_56 (by ((try simp only [vp_in_iff, Int32.lt_iff_toInt_lt, Int32.le_iff_toInt_le, ← Int32.toInt_inj, Int32.reduceToInt, n_1, n_2, n_8, Int32.toNatClampNeg, Int64.lt_iff_toInt_lt, Int64.le_iff_toInt_le, ← Int64.toInt_inj, Int64.reduceToInt, Int32.toInt_toInt64, lg_cmp_ge, lg_cmp_le, lg_cmp_gt, lg_cmp_lt, lg_cmp_eq, Bool.false_eq_true, Bool.true_eq_false, reduceCtorEq, false_iff, true_iff, iff_true, iff_false, and_true, true_and, and_false, false_and, reduceIte, ite_true, ite_false, eq_self] at *)) <;> omega) (fun s10 hs10 => ?_)
            have Fs10 : Sm 51 60 σ s10 := by rw [hs10]; exact Sm.si (Sm.rf 51 60 σ) _ _ (by decide) (by decide)
            refine wa_aload_n (i := 0) rfl rfl ?_
            refine wa_getr ck_5 fl_5_27 ly_51 rf_51_6 ?_
            refine wa_aload_n (i := 0) rfl rfl ?_
            refine wa_geti ck_5 fl_5_41 ly_51 ?_
            refine wa_rw (nxq_gi_si hs10 (by decide)) ?_
            refine wa_iload_n (i := 1) rfl rfl ?_
            refine wa_iast ly_57 (by ((try simp only [vp_in_iff, Int32.lt_iff_toInt_lt, Int32.le_iff_toInt_le, ← Int32.toInt_inj, Int32.reduceToInt, n_1, n_2, n_8, Int32.toNatClampNeg, Int64.lt_iff_toInt_lt, Int64.le_iff_toInt_le, ← Int64.toInt_inj, Int64.reduceToInt, Int32.toInt_toInt64, lg_cmp_ge, lg_cmp_le, lg_cmp_gt, lg_cmp_lt, lg_cmp_eq, Bool.false_eq_true, Bool.true_eq_false, reduceCtorEq, false_iff, true_iff, iff_true, iff_false, and_true, true_and, and_false, false_and, reduceIte, ite_true, ite_false, eq_self] at *)) <;> omega) (fun s11 hs11 => ?_)
            have Fs11 : Sm 51 60 σ s11 := by rw [hs11]; exact Sm.si Fs10 _ _ (by decide) (by decide)
            refine wa_aload_n (i := 0) rfl rfl ?_
            refine wa_getr ck_5 fl_5_34 ly_51 rf_51_8 ?_
            refine wa_aload_n (i := 0) rfl rfl ?_
            refine wa_geti ck_5 fl_5_41 ly_51 ?_
            refine wa_rw ((nxq_gi_si hs11 (by decide)).trans (nxq_gi_si hs10 (by decide))) ?_
            refine wa_aload_n (i := 0) rfl rfl ?_
            refine wa_getr ck_5 fl_5_11 ly_51 rf_51_1 ?_
            refine wa_iload_n (i := 1) rfl rfl ?_
            refine wa_iald ly_52 (by ((try simp only [vp_in_iff, Int32.lt_iff_toInt_lt, Int32.le_iff_toInt_le, ← Int32.toInt_inj, Int32.reduceToInt, n_1, n_2, n_8, Int32.toNatClampNeg, Int64.lt_iff_toInt_lt, Int64.le_iff_toInt_le, ← Int64.toInt_inj, Int64.reduceToInt, Int32.toInt_toInt64, lg_cmp_ge, lg_cmp_le, lg_cmp_gt, lg_cmp_lt, lg_cmp_eq, Bool.false_eq_true, Bool.true_eq_false, reduceCtorEq, false_iff, true_iff, iff_true, iff_false, and_true, true_and, and_false, false_and, reduceIte, ite_true, ite_false, eq_self] at *)) <;> omega) ?_
            refine wa_iast ly_59 (by ((try simp only [vp_in_iff, Int32.lt_iff_toInt_lt, Int32.le_iff_toInt_le, ← Int32.toInt_inj, Int32.reduceToInt, n_1, n_2, n_8, Int32.toNatClampNeg, Int64.lt_iff_toInt_lt, Int64.le_iff_toInt_le, ← Int64.toInt_inj, Int64.reduceToInt, Int32.toInt_toInt64, lg_cmp_ge, lg_cmp_le, lg_cmp_gt, lg_cmp_lt, lg_cmp_eq, Bool.false_eq_true, Bool.true_eq_false, reduceCtorEq, false_iff, true_iff, iff_true, iff_false, and_true, true_and, and_false, false_and, reduceIte, ite_true, ite_false, eq_self] at *)) <;> omega) (fun s12 hs12 => ?_)
            have Fs12 : Sm 51 60 σ s12 := by rw [hs12]; exact Sm.si Fs11 _ _ (by decide) (by decide)
            refine wa_aload_n (i := 0) rfl rfl ?_
            refine wa_dup rfl ?_
            refine wa_geti ck_5 fl_5_41 ly_51 ?_
            refine wa_rw ((nxq_gi_si hs12 (by decide)).trans ((nxq_gi_si hs11 (by decide)).trans (nxq_gi_si hs10 (by decide)))) ?_
            refine wa_iconst (v := 1) (by decide) ?_
            refine wa_iadd ?_
            refine wa_top (fun v13 hv13 => ?_)
            have tv13 := i_addT hv13
            clear hv13
            refine wa_puti ck_5 fl_5_41 ly_51 (fun s14 hs14 => ?_)
            have Fs14 : Sm 51 60 σ s14 := by rw [hs14]; exact Sm.si Fs12 _ _ (by decide) (by decide)
            refine wa_aload_n (i := 0) rfl rfl ?_
            refine wa_getr ck_5 fl_5_24 ly_51 rf_51_5 ?_
            refine wa_iload_n (i := 2) rfl rfl ?_
            refine wa_iald ly_56 (by ((try simp only [vp_in_iff, Int32.lt_iff_toInt_lt, Int32.le_iff_toInt_le, ← Int32.toInt_inj, Int32.reduceToInt, n_1, n_2, n_8, Int32.toNatClampNeg, Int64.lt_iff_toInt_lt, Int64.le_iff_toInt_le, ← Int64.toInt_inj, Int64.reduceToInt, Int32.toInt_toInt64, lg_cmp_ge, lg_cmp_le, lg_cmp_gt, lg_cmp_lt, lg_cmp_eq, Bool.false_eq_true, Bool.true_eq_false, reduceCtorEq, false_iff, true_iff, iff_true, iff_false, and_true, true_and, and_false, false_and, reduceIte, ite_true, ite_false, eq_self] at *)) <;> omega) ?_
            refine wa_ireturn rfl rfl ?_
            exact ⟨_, rfl, Fs14, trivial⟩
set_option maxHeartbeats 4000000 in
theorem sp_X5_giveNumbers (G : kG9) {d : Nat} (hd : 2 ≤ d) (σ : St) (a0 : Int32) (p1 : a0.toInt ≤ 3000 ∧ 0 ≤ a0.toInt) : Ct G M_X5_giveNumbers d [.ref 51, .int a0] σ (fun r σ' => Sm 51 60 σ σ' ∧ True) := by
  refine wa_start (by decide) rfl (Nat.le_of_ble_eq_true rfl) (lv := [(0, .ref 51), (1, .int a0)]) rfl o_X5_giveNumbers_0 rfl ?_
  have ua0 := Int32.toInt_lt a0
  have wa0 := Int32.le_toInt a0
  refine wa_aload_n (i := 0) rfl rfl ?_
  refine wa_getr ck_5 fl_5_24 ly_51 rf_51_5 ?_
  refine wa_iconst (v := (-1)) (by decide) ?_
  refine wa_Sv (d9 := d - 1) [.ref 56, .int _] [] (sp_J7_fill_53178_at_56 G (d := d - 1) (by omega) σ _) (rfl) rfl rfl (zr (by omega)) mk_J7_fill_53178 ml_5_75 (Nat.le_of_ble_eq_true rfl) (fun s1 hs1 => ?_)
  obtain ⟨fs1, -⟩ := hs1
  have Fs1 := Sm.tr (Sm.rf 51 60 σ) (Sm.wd fs1 (lo' := 51) (hi' := 60) (by decide) (by decide))
  refine wa_aload_n (i := 0) rfl rfl ?_
  refine wa_aload_n (i := 0) rfl rfl ?_
  refine wa_getr ck_5 fl_5_37 ly_51 rf_51_0 ?_
  refine wa_geti ck_6 fl_5_93 ly_31 ?_
  refine wa_rw (Sm.gi fs1 12 (Or.inl (by decide))) ?_
  refine wa_puti ck_5 fl_5_45 ly_51 (fun s3 hs3 => ?_)
  have Fs3 : Sm 51 60 σ s3 := by rw [hs3]; exact Sm.si Fs1 _ _ (by decide) (by decide)
  refine wa_aload_n (i := 0) rfl rfl ?_
  refine wa_iconst (v := 0) (by decide) ?_
  refine wa_puti ck_5 fl_5_41 ly_51 (fun s4 hs4 => ?_)
  have Fs4 : Sm 51 60 σ s4 := by rw [hs4]; exact Sm.si Fs3 _ _ (by decide) (by decide)
  refine wa_aload_n (i := 0) rfl rfl ?_
  refine wa_iconst (v := 0) (by decide) ?_
  refine wa_Vi (d9 := d - 1) [.int _] [] (sp_X5_addState G (d := d - 1) (by omega) s4 _) (rfl) rfl rfl (zr (by omega)) mk_X5_addState ly_51 ml_5_103 (Nat.le_of_ble_eq_true rfl) (fun x6 s5 hs5 => ?_)
  obtain ⟨fs5, -⟩ := pI hs5
  have Fs5 := Sm.tr Fs4 (Sm.wd fs5 (lo' := 51) (hi' := 60) (by decide) (by decide))
  refine wa_pop rfl ?_
  refine wa_iconst (v := 0) (by decide) ?_
  refine wa_istore_nD (lv' := [(2, .int 0), (0, .ref 51), (1, .int a0)]) (i := 2) rfl (by decide) rfl ?_
  refine wa_pick [1, 0] rfl ?_
  have hi9 : ∀ (n9_32 : Nat) (l2 : Int32) (s7 : St), ((Sm 51 60 σ s7) ∧ (gi s7 31 12 = gi σ 31 12) ∧ (0 ≤ l2.toInt) ∧ (True)) → (2147483647 - l2.toInt).toNat = n9_32 → WA G M_X5_giveNumbers (ZM G M_X5_giveNumbers d (fun r σ' => Sm 51 60 σ σ' ∧ True)) B_X5_giveNumbers_32 [(0, .ref 51), (2, .int l2)] [] s7 := by
    intro n9_32
    induction n9_32 using Nat.strongRecOn with
    | _ n9_32 ih8 =>
      intro l2 s7 i9 m9_32
      obtain ⟨Fs7, khi9_0, jhi9_0, -⟩ := i9
      have ul2 := Int32.toInt_lt l2
      have wl2 := Int32.le_toInt l2
      refine wa_iload_n (i := 2) rfl rfl ?_
      refine wa_aload_n (i := 0) rfl rfl ?_
      refine wa_geti ck_5 fl_5_41 ly_51 ?_
      refine wa_icmp_ge o_X5_giveNumbers_104 (by decide) (fun h10 => ?_) (fun h10 => ?_)
      · refine wa_return (st := []) rfl rfl ?_
        exact ⟨Fs7, trivial⟩
      · have mh10 := nle_mx h10
        refine wa_iload_n (i := 2) rfl rfl ?_
        refine wa_sipush (v := 3000) (by decide) ?_
        refine wa_icmp_ge o_X5_giveNumbers_104 (by decide) (fun h11 => ?_) (fun h11 => ?_)
        · refine wa_return (st := []) rfl rfl ?_
          exact ⟨Fs7, trivial⟩
        · have mh11 := nle_mx h11
          refine wa_iconst (v := 0) (by decide) ?_
          refine wa_istore_nD (lv' := [(3, .int 0), (0, .ref 51), (2, .int l2)]) (i := 3) rfl (by decide) rfl ?_
          refine wa_pick [1, 2, 0] rfl ?_
          have hi14 : ∀ (n9_49 : Nat) (l3 : Int32) (s12 : St), ((Sm 51 60 σ s12) ∧ (gi s12 31 12 = gi σ 31 12) ∧ (0 ≤ l3.toInt) ∧ (True)) → (2147483647 - l3.toInt).toNat = n9_49 → WA G M_X5_giveNumbers (ZM G M_X5_giveNumbers d (fun r σ' => Sm 51 60 σ σ' ∧ True)) B_X5_giveNumbers_49 [(0, .ref 51), (2, .int l2), (3, .int l3)] [] s12 := by
            intro n9_49
            induction n9_49 using Nat.strongRecOn with
            | _ n9_49 ih13 =>
              intro l3 s12 i9 m9_49
              obtain ⟨Fs12, khi14_0, jhi14_0, -⟩ := i9
              have ul3 := Int32.toInt_lt l3
              have wl3 := Int32.le_toInt l3
              refine wa_iload_n (i := 3) rfl rfl ?_
              refine wa_aload_n (i := 0) rfl rfl ?_
              refine wa_geti ck_5 fl_5_45 ly_51 ?_
              refine wa_icmp_ge o_X5_giveNumbers_98 (by decide) (fun h15 => ?_) (fun h15 => ?_)
              · refine wa_iinc (v := (1)) (lv' := fun y16 => [(2, .int y16), (0, .ref 51), (3, .int l3)]) (by decide) rfl (by decide) (fun _ => rfl) (fun y16 hy16 => ?_)
                have ty16 := i_addT hy16.symm
                clear hy16
                refine wa_goto o_X5_giveNumbers_32 (by decide) ?_
                refine wa_pick [1, 0] rfl ?_
                exact ih8 _ (by ((try simp only [vp_in_iff, Int32.lt_iff_toInt_lt, Int32.le_iff_toInt_le, ← Int32.toInt_inj, Int32.reduceToInt, n_1, n_2, n_8, Int32.toNatClampNeg, Int64.lt_iff_toInt_lt, Int64.le_iff_toInt_le, ← Int64.toInt_inj, Int64.reduceToInt, Int32.toInt_toInt64, lg_cmp_ge, lg_cmp_le, lg_cmp_gt, lg_cmp_lt, lg_cmp_eq, Bool.false_eq_true, Bool.true_eq_false, reduceCtorEq, false_iff, true_iff, iff_true, iff_false, and_true, true_and, and_false, false_and, reduceIte, ite_true, ite_false, eq_self] at *)) <;> omega) _ _ ⟨Fs12, (khi14_0), (by ((try simp only [vp_in_iff, Int32.lt_iff_toInt_lt, Int32.le_iff_toInt_le, ← Int32.toInt_inj, Int32.reduceToInt, n_1, n_2, n_8, Int32.toNatClampNeg, Int64.lt_iff_toInt_lt, Int64.le_iff_toInt_le, ← Int64.toInt_inj, Int64.reduceToInt, Int32.toInt_toInt64, lg_cmp_ge, lg_cmp_le, lg_cmp_gt, lg_cmp_lt, lg_cmp_eq, Bool.false_eq_true, Bool.true_eq_false, reduceCtorEq, false_iff, true_iff, iff_true, iff_false, and_true, true_and, and_false, false_and, reduceIte, ite_true, ite_false, eq_self] at *)) <;> omega), trivial⟩ rfl
              · have mh15 := nle_mx h15
                refine wa_iload_n (i := 3) rfl rfl ?_
                refine wa_bipush (v := 16) (by decide) ?_
                refine wa_icmp_ge o_X5_giveNumbers_98 (by decide) (fun h17 => ?_) (fun h17 => ?_)
                · refine wa_iinc (v := (1)) (lv' := fun y18 => [(2, .int y18), (0, .ref 51), (3, .int l3)]) (by decide) rfl (by decide) (fun _ => rfl) (fun y18 hy18 => ?_)
                  have ty18 := i_addT hy18.symm
                  clear hy18
                  refine wa_goto o_X5_giveNumbers_32 (by decide) ?_
                  refine wa_pick [1, 0] rfl ?_
                  exact ih8 _ (by ((try simp only [vp_in_iff, Int32.lt_iff_toInt_lt, Int32.le_iff_toInt_le, ← Int32.toInt_inj, Int32.reduceToInt, n_1, n_2, n_8, Int32.toNatClampNeg, Int64.lt_iff_toInt_lt, Int64.le_iff_toInt_le, ← Int64.toInt_inj, Int64.reduceToInt, Int32.toInt_toInt64, lg_cmp_ge, lg_cmp_le, lg_cmp_gt, lg_cmp_lt, lg_cmp_eq, Bool.false_eq_true, Bool.true_eq_false, reduceCtorEq, false_iff, true_iff, iff_true, iff_false, and_true, true_and, and_false, false_and, reduceIte, ite_true, ite_false, eq_self] at *)) <;> omega) _ _ ⟨Fs12, (khi14_0), (by ((try simp only [vp_in_iff, Int32.lt_iff_toInt_lt, Int32.le_iff_toInt_le, ← Int32.toInt_inj, Int32.reduceToInt, n_1, n_2, n_8, Int32.toNatClampNeg, Int64.lt_iff_toInt_lt, Int64.le_iff_toInt_le, ← Int64.toInt_inj, Int64.reduceToInt, Int32.toInt_toInt64, lg_cmp_ge, lg_cmp_le, lg_cmp_gt, lg_cmp_lt, lg_cmp_eq, Bool.false_eq_true, Bool.true_eq_false, reduceCtorEq, false_iff, true_iff, iff_true, iff_false, and_true, true_and, and_false, false_and, reduceIte, ite_true, ite_false, eq_self] at *)) <;> omega), trivial⟩ rfl
                · have mh17 := nle_mx h17
                  refine wa_aload_n (i := 0) rfl rfl ?_
                  refine wa_getr ck_5 fl_5_31 ly_51 rf_51_7 ?_
                  refine wa_iload_n (i := 2) rfl rfl ?_
                  refine wa_bipush (v := 16) (by decide) ?_
                  refine wa_imul ?_
                  refine wa_top (fun v19 hv19 => ?_)
                  have tv19 := i_mulT hv19
                  clear hv19
                  refine wa_iload_n (i := 3) rfl rfl ?_
                  refine wa_iadd ?_
                  refine wa_top (fun v20 hv20 => ?_)
                  have tv20 := i_addT hv20
                  clear hv20
                  refine wa_aload_n (i := 0) rfl rfl ?_
                  refine wa_aload_n (i := 0) rfl rfl ?_
                  refine wa_getr ck_5 fl_5_37 ly_51 rf_51_0 ?_
                  refine wa_aload_n (i := 0) rfl rfl ?_
                  refine wa_getr ck_5 fl_5_27 ly_51 rf_51_6 ?_
                  refine wa_iload_n (i := 2) rfl rfl ?_
                  refine wa_iald ly_57 (by ((try simp only [vp_in_iff, Int32.lt_iff_toInt_lt, Int32.le_iff_toInt_le, ← Int32.toInt_inj, Int32.reduceToInt, n_1, n_2, n_8, Int32.toNatClampNeg, Int64.lt_iff_toInt_lt, Int64.le_iff_toInt_le, ← Int64.toInt_inj, Int64.reduceToInt, Int32.toInt_toInt64, lg_cmp_ge, lg_cmp_le, lg_cmp_gt, lg_cmp_lt, lg_cmp_eq, Bool.false_eq_true, Bool.true_eq_false, reduceCtorEq, false_iff, true_iff, iff_true, iff_false, and_true, true_and, and_false, false_and, reduceIte, ite_true, ite_false, eq_self] at *)) <;> omega) ?_
                  refine wa_iload_n (i := 3) rfl rfl ?_
                  refine wa_Vi (d9 := d - 1) [.int _, .int _] [.ref 51, .int v20, .ref 58] (sp_X6_behind G (d := d - 1) (by omega) s12 _ _) (rfl) rfl rfl (zr (by omega)) mk_X6_behind ly_31 ml_5_96 (Nat.le_of_ble_eq_true rfl) (fun x22 s21 hs21 => ?_)
                  obtain ⟨zs21, -⟩ := pI hs21
                  subst zs21
                  refine wa_Vi (d9 := d - 1) [.int _] [.int v20, .ref 58] (sp_X5_addState G (d := d - 1) (by omega) s12 _) (rfl) rfl rfl (zr (by omega)) mk_X5_addState ly_51 ml_5_103 (Nat.le_of_ble_eq_true rfl) (fun x24 s23 hs23 => ?_)
                  obtain ⟨fs23, -⟩ := pI hs23
                  have Fs23 := Sm.tr Fs12 (Sm.wd fs23 (lo' := 51) (hi' := 60) (by decide) (by decide))
                  refine wa_iast ly_58 (by ((try simp only [vp_in_iff, Int32.lt_iff_toInt_lt, Int32.le_iff_toInt_le, ← Int32.toInt_inj, Int32.reduceToInt, n_1, n_2, n_8, Int32.toNatClampNeg, Int64.lt_iff_toInt_lt, Int64.le_iff_toInt_le, ← Int64.toInt_inj, Int64.reduceToInt, Int32.toInt_toInt64, lg_cmp_ge, lg_cmp_le, lg_cmp_gt, lg_cmp_lt, lg_cmp_eq, Bool.false_eq_true, Bool.true_eq_false, reduceCtorEq, false_iff, true_iff, iff_true, iff_false, and_true, true_and, and_false, false_and, reduceIte, ite_true, ite_false, eq_self] at *)) <;> omega) (fun s25 hs25 => ?_)
                  have Fs25 : Sm 51 60 σ s25 := by rw [hs25]; exact Sm.si Fs23 _ _ (by decide) (by decide)
                  refine wa_iinc (v := (1)) (lv' := fun y26 => [(3, .int y26), (0, .ref 51), (2, .int l2)]) (by decide) rfl (by decide) (fun _ => rfl) (fun y26 hy26 => ?_)
                  have ty26 := i_addT hy26.symm
                  clear hy26
                  refine wa_goto o_X5_giveNumbers_49 (by decide) ?_
                  refine wa_pick [1, 2, 0] rfl ?_
                  exact ih13 _ (by ((try simp only [vp_in_iff, Int32.lt_iff_toInt_lt, Int32.le_iff_toInt_le, ← Int32.toInt_inj, Int32.reduceToInt, n_1, n_2, n_8, Int32.toNatClampNeg, Int64.lt_iff_toInt_lt, Int64.le_iff_toInt_le, ← Int64.toInt_inj, Int64.reduceToInt, Int32.toInt_toInt64, lg_cmp_ge, lg_cmp_le, lg_cmp_gt, lg_cmp_lt, lg_cmp_eq, Bool.false_eq_true, Bool.true_eq_false, reduceCtorEq, false_iff, true_iff, iff_true, iff_false, and_true, true_and, and_false, false_and, reduceIte, ite_true, ite_false, eq_self] at *)) <;> omega) _ _ ⟨Fs25, ((nxq_gi_si hs25 (by decide)).trans ((Sm.gi fs23 12 (Or.inl (by decide))).trans (khi14_0))), (by ((try simp only [vp_in_iff, Int32.lt_iff_toInt_lt, Int32.le_iff_toInt_le, ← Int32.toInt_inj, Int32.reduceToInt, n_1, n_2, n_8, Int32.toNatClampNeg, Int64.lt_iff_toInt_lt, Int64.le_iff_toInt_le, ← Int64.toInt_inj, Int64.reduceToInt, Int32.toInt_toInt64, lg_cmp_ge, lg_cmp_le, lg_cmp_gt, lg_cmp_lt, lg_cmp_eq, Bool.false_eq_true, Bool.true_eq_false, reduceCtorEq, false_iff, true_iff, iff_true, iff_false, and_true, true_and, and_false, false_and, reduceIte, ite_true, ite_false, eq_self] at *)) <;> omega), trivial⟩ rfl
          exact hi14 _ _ _ ⟨Fs7, (khi9_0), (by ((try simp only [vp_in_iff, Int32.lt_iff_toInt_lt, Int32.le_iff_toInt_le, ← Int32.toInt_inj, Int32.reduceToInt, n_1, n_2, n_8, Int32.toNatClampNeg, Int64.lt_iff_toInt_lt, Int64.le_iff_toInt_le, ← Int64.toInt_inj, Int64.reduceToInt, Int32.toInt_toInt64, lg_cmp_ge, lg_cmp_le, lg_cmp_gt, lg_cmp_lt, lg_cmp_eq, Bool.false_eq_true, Bool.true_eq_false, reduceCtorEq, false_iff, true_iff, iff_true, iff_false, and_true, true_and, and_false, false_and, reduceIte, ite_true, ite_false, eq_self] at *)) <;> omega), trivial⟩ rfl
  exact hi9 _ _ _ ⟨Fs5, ((Sm.gi fs5 12 (Or.inl (by decide))).trans ((nxq_gi_si hs4 (by decide)).trans ((nxq_gi_si hs3 (by decide)).trans (Sm.gi fs1 12 (Or.inl (by decide)))))), (by ((try simp only [vp_in_iff, Int32.lt_iff_toInt_lt, Int32.le_iff_toInt_le, ← Int32.toInt_inj, Int32.reduceToInt, n_1, n_2, n_8, Int32.toNatClampNeg, Int64.lt_iff_toInt_lt, Int64.le_iff_toInt_le, ← Int64.toInt_inj, Int64.reduceToInt, Int32.toInt_toInt64, lg_cmp_ge, lg_cmp_le, lg_cmp_gt, lg_cmp_lt, lg_cmp_eq, Bool.false_eq_true, Bool.true_eq_false, reduceCtorEq, false_iff, true_iff, iff_true, iff_false, and_true, true_and, and_false, false_and, reduceIte, ite_true, ite_false, eq_self] at *)) <;> omega), trivial⟩ rfl
set_option maxHeartbeats 4000000 in
theorem sp_X5_tell (G : kG9) {d : Nat} (hd : 4 ≤ d) (σ : St) (a0 : Int32) (r1 : 0 ≤ (gi σ 31 13).toInt ∧ (gi σ 31 13).toInt ≤ 3000) : Ct G M_X5_tell d [.ref 51, .int a0] σ (fun r σ' => ∃ x : Int32, r = some (.int x) ∧ Sm 51 60 σ σ' ∧ True) := by
  refine wa_start (by decide) rfl (Nat.le_of_ble_eq_true rfl) (lv := [(0, .ref 51), (1, .int a0)]) rfl o_X5_tell_0 rfl ?_
  have ua0 := Int32.toInt_lt a0
  have wa0 := Int32.le_toInt a0
  refine wa_aload_n (i := 0) rfl rfl ?_
  refine wa_getr ck_5 fl_5_37 ly_51 rf_51_0 ?_
  refine wa_geti ck_6 fl_5_52 ly_31 ?_
  refine wa_sipush (v := 3000) (by decide) ?_
  refine wa_minI zs (allW_in (kT_7 _ (List.mem_of_getElem? (i := 91) rfl)) rfl) (Nat.le_of_ble_eq_true rfl) ?_
  refine wa_top (fun v1 hv1 => ?_)
  have tv1 := i_minI hv1
  clear hv1
  refine wa_istore_nD (lv' := [(2, .int v1), (0, .ref 51), (1, .int a0)]) (i := 2) rfl (by decide) rfl ?_
  refine wa_iconst (v := 0) (by decide) ?_
  refine wa_istore_nD (lv' := [(3, .int 0), (2, .int v1), (0, .ref 51), (1, .int a0)]) (i := 3) rfl (by decide) rfl ?_
  refine wa_pick [2, 3, 1, 0] rfl ?_
  have hi4 : ∀ (n9_16 : Nat) (l3 : Int32) (s2 : St), ((Sm 51 60 σ s2) ∧ (gi s2 31 13 = gi σ 31 13) ∧ (gi s2 51 9 = gi σ 51 9) ∧ (0 ≤ l3.toInt) ∧ (True)) → (2147483647 - l3.toInt).toNat = n9_16 → WA G M_X5_tell (ZM G M_X5_tell d (fun r σ' => ∃ x : Int32, r = some (.int x) ∧ Sm 51 60 σ σ' ∧ True)) B_X5_tell_16 [(0, .ref 51), (1, .int a0), (2, .int v1), (3, .int l3)] [] s2 := by
    intro n9_16
    induction n9_16 using Nat.strongRecOn with
    | _ n9_16 ih3 =>
      intro l3 s2 i9 m9_16
      obtain ⟨Fs2, khi4_0, khi4_1, jhi4_0, -⟩ := i9
      have ul3 := Int32.toInt_lt l3
      have wl3 := Int32.le_toInt l3
      refine wa_iload_n (i := 3) rfl rfl ?_
      refine wa_iload_n (i := 2) rfl rfl ?_
      refine wa_icmp_ge o_X5_tell_57 (by decide) (fun h5 => ?_) (fun h5 => ?_)
      · refine wa_iconst (v := 0) (by decide) ?_
        refine wa_istore_nD (lv' := [(3, .int 0), (0, .ref 51), (1, .int a0), (2, .int v1)]) (i := 3) rfl (by decide) rfl ?_
        refine wa_iconst (v := 1) (by decide) ?_
        refine wa_istoreD (lv' := [(4, .int (bI true)), (3, .int 0), (0, .ref 51), (1, .int a0), (2, .int v1)]) (by decide) rfl ?_
        refine wa_iconst (v := 0) (by decide) ?_
        refine wa_istoreD (lv' := [(5, .int 0), (4, .int (bI true)), (3, .int 0), (0, .ref 51), (1, .int a0), (2, .int v1)]) (by decide) rfl ?_
        refine wa_pick [3, 5, 2, 1, 0] rfl ?_
        have hi8 : ∀ (n9_65 : Nat) (l3 : Int32) (l4 : Bool) (l5 : Int32) (s6 : St), ((Sm 51 60 σ s6) ∧ (gi s6 31 13 = gi σ 31 13) ∧ (gi s6 51 9 = gi σ 51 9) ∧ (0 ≤ l5.toInt) ∧ (True)) → (2147483647 - l5.toInt).toNat = n9_65 → WA G M_X5_tell (ZM G M_X5_tell d (fun r σ' => ∃ x : Int32, r = some (.int x) ∧ Sm 51 60 σ σ' ∧ True)) B_X5_tell_65 [(0, .ref 51), (2, .int v1), (3, .int l3), (4, .int (bI l4)), (5, .int l5)] [] s6 := by
          intro n9_65
          induction n9_65 using Nat.strongRecOn with
          | _ n9_65 ih7 =>
            intro l3 l4 l5 s6 i9 m9_65
            obtain ⟨Fs6, khi8_0, khi8_1, jhi8_0, -⟩ := i9
            have ul3 := Int32.toInt_lt l3
            have wl3 := Int32.le_toInt l3
            have ul5 := Int32.toInt_lt l5
            have wl5 := Int32.le_toInt l5
            refine wa_iload rfl ?_
            refine wa_iload_n (i := 2) rfl rfl ?_
            refine wa_icmp_gt o_X5_tell_104 (by decide) (fun h9 => ?_) (fun h9 => ?_)
            · refine wa_aload_n (i := 0) rfl rfl ?_
              refine wa_iload_n (i := 2) rfl rfl ?_
              refine wa_Vv (d9 := d - 1) [.int _] [] (sp_X5_giveNumbers G (d := d - 1) (by omega) s6 _ (by ((try simp only [vp_in_iff, Int32.lt_iff_toInt_lt, Int32.le_iff_toInt_le, ← Int32.toInt_inj, Int32.reduceToInt, n_1, n_2, n_8, Int32.toNatClampNeg, Int64.lt_iff_toInt_lt, Int64.le_iff_toInt_le, ← Int64.toInt_inj, Int64.reduceToInt, Int32.toInt_toInt64, lg_cmp_ge, lg_cmp_le, lg_cmp_gt, lg_cmp_lt, lg_cmp_eq, Bool.false_eq_true, Bool.true_eq_false, reduceCtorEq, false_iff, true_iff, iff_true, iff_false, and_true, true_and, and_false, false_and, reduceIte, ite_true, ite_false, eq_self] at *)) <;> omega)) (rfl) rfl rfl (zr (by omega)) mk_X5_giveNumbers ly_51 ml_5_71 (Nat.le_of_ble_eq_true rfl) (fun s10 hs10 => ?_)
              obtain ⟨fs10, -⟩ := hs10
              have Fs10 := Sm.tr Fs6 (Sm.wd fs10 (lo' := 51) (hi' := 60) (by decide) (by decide))
              refine wa_aload_n (i := 0) rfl rfl ?_
              refine wa_geti ck_5 fl_5_41 ly_51 ?_
              refine wa_ireturn rfl rfl ?_
              exact ⟨_, rfl, Fs10, trivial⟩
            · refine wa_iload rfl ?_
              refine wa_if_eq o_X5_tell_104 (by decide) (fun h12 => ?_) (fun h12 => ?_)
              · replace h12 := bI_f (b := l4) (rfl) h12
                refine wa_aload_n (i := 0) rfl rfl ?_
                refine wa_iload_n (i := 2) rfl rfl ?_
                refine wa_Vv (d9 := d - 1) [.int _] [] (sp_X5_giveNumbers G (d := d - 1) (by omega) s6 _ (by ((try simp only [vp_in_iff, Int32.lt_iff_toInt_lt, Int32.le_iff_toInt_le, ← Int32.toInt_inj, Int32.reduceToInt, n_1, n_2, n_8, Int32.toNatClampNeg, Int64.lt_iff_toInt_lt, Int64.le_iff_toInt_le, ← Int64.toInt_inj, Int64.reduceToInt, Int32.toInt_toInt64, lg_cmp_ge, lg_cmp_le, lg_cmp_gt, lg_cmp_lt, lg_cmp_eq, Bool.false_eq_true, Bool.true_eq_false, reduceCtorEq, false_iff, true_iff, iff_true, iff_false, and_true, true_and, and_false, false_and, reduceIte, ite_true, ite_false, eq_self] at *)) <;> omega)) (rfl) rfl rfl (zr (by omega)) mk_X5_giveNumbers ly_51 ml_5_71 (Nat.le_of_ble_eq_true rfl) (fun s13 hs13 => ?_)
                obtain ⟨fs13, -⟩ := hs13
                have Fs13 := Sm.tr Fs6 (Sm.wd fs13 (lo' := 51) (hi' := 60) (by decide) (by decide))
                refine wa_aload_n (i := 0) rfl rfl ?_
                refine wa_geti ck_5 fl_5_41 ly_51 ?_
                refine wa_ireturn rfl rfl ?_
                exact ⟨_, rfl, Fs13, trivial⟩
              · replace h12 := bI_t (b := l4) (rfl) h12
                refine wa_iload_n (i := 3) rfl rfl ?_
                refine wa_istoreD (lv' := [(6, .int l3), (0, .ref 51), (2, .int v1), (3, .int l3), (4, .int (bI l4)), (5, .int l5)]) (by decide) rfl ?_
                refine wa_aload_n (i := 0) rfl rfl ?_
                refine wa_iload_n (i := 2) rfl rfl ?_
                refine wa_Vi (d9 := d - 1) [.int _] [] (sp_X5_refine G (d := d - 1) (by omega) s6 _ (by ((try simp only [vp_in_iff, Int32.lt_iff_toInt_lt, Int32.le_iff_toInt_le, ← Int32.toInt_inj, Int32.reduceToInt, n_1, n_2, n_8, Int32.toNatClampNeg, Int64.lt_iff_toInt_lt, Int64.le_iff_toInt_le, ← Int64.toInt_inj, Int64.reduceToInt, Int32.toInt_toInt64, lg_cmp_ge, lg_cmp_le, lg_cmp_gt, lg_cmp_lt, lg_cmp_eq, Bool.false_eq_true, Bool.true_eq_false, reduceCtorEq, false_iff, true_iff, iff_true, iff_false, and_true, true_and, and_false, false_and, reduceIte, ite_true, ite_false, eq_self] at *)) <;> omega)) (rfl) rfl rfl (zr (by omega)) mk_X5_refine ly_51 ml_5_67 (Nat.le_of_ble_eq_true rfl) (fun x16 s15 hs15 => ?_)
                obtain ⟨fs15, -⟩ := pI hs15
                have Fs15 := Sm.tr Fs6 (Sm.wd fs15 (lo' := 51) (hi' := 60) (by decide) (by decide))
                refine wa_istore_nD (lv' := [(3, .int x16), (6, .int l3), (0, .ref 51), (2, .int v1), (4, .int (bI l4)), (5, .int l5)]) (i := 3) rfl (by decide) rfl ?_
                refine wa_iload_n (i := 3) rfl rfl ?_
                refine wa_iload rfl ?_
                refine wa_icmp_eq o_X5_tell_95 (by decide) (fun h17 => ?_) (fun h17 => ?_)
                · refine wa_iconst (v := 0) (by decide) ?_
                  refine wa_istoreD (lv' := [(4, .int (bI false)), (3, .int x16), (6, .int l3), (0, .ref 51), (2, .int v1), (5, .int l5)]) (by decide) rfl ?_
                  refine wa_iinc (v := (1)) (lv' := fun y18 => [(5, .int y18), (4, .int (bI false)), (3, .int x16), (6, .int l3), (0, .ref 51), (2, .int v1)]) (by decide) rfl (by decide) (fun _ => rfl) (fun y18 hy18 => ?_)
                  have ty18 := i_addT hy18.symm
                  clear hy18
                  refine wa_goto o_X5_tell_65 (by decide) ?_
                  refine wa_pick [4, 5, 2, 1, 0] rfl ?_
                  exact ih7 _ (by ((try simp only [vp_in_iff, Int32.lt_iff_toInt_lt, Int32.le_iff_toInt_le, ← Int32.toInt_inj, Int32.reduceToInt, n_1, n_2, n_8, Int32.toNatClampNeg, Int64.lt_iff_toInt_lt, Int64.le_iff_toInt_le, ← Int64.toInt_inj, Int64.reduceToInt, Int32.toInt_toInt64, lg_cmp_ge, lg_cmp_le, lg_cmp_gt, lg_cmp_lt, lg_cmp_eq, Bool.false_eq_true, Bool.true_eq_false, reduceCtorEq, false_iff, true_iff, iff_true, iff_false, and_true, true_and, and_false, false_and, reduceIte, ite_true, ite_false, eq_self] at *)) <;> omega) _ _ _ _ ⟨Fs15, ((Sm.gi fs15 13 (Or.inl (by decide))).trans (khi8_0)), ((Sm.gi fs15 9 (Or.inl (by decide))).trans (khi8_1)), (by ((try simp only [vp_in_iff, Int32.lt_iff_toInt_lt, Int32.le_iff_toInt_le, ← Int32.toInt_inj, Int32.reduceToInt, n_1, n_2, n_8, Int32.toNatClampNeg, Int64.lt_iff_toInt_lt, Int64.le_iff_toInt_le, ← Int64.toInt_inj, Int64.reduceToInt, Int32.toInt_toInt64, lg_cmp_ge, lg_cmp_le, lg_cmp_gt, lg_cmp_lt, lg_cmp_eq, Bool.false_eq_true, Bool.true_eq_false, reduceCtorEq, false_iff, true_iff, iff_true, iff_false, and_true, true_and, and_false, false_and, reduceIte, ite_true, ite_false, eq_self] at *)) <;> omega), trivial⟩ rfl
                · refine wa_iconst (v := 1) (by decide) ?_
                  refine wa_goto o_X5_tell_96 (by decide) ?_
                  refine wa_istoreD (lv' := [(4, .int (bI true)), (3, .int x16), (6, .int l3), (0, .ref 51), (2, .int v1), (5, .int l5)]) (by decide) rfl ?_
                  refine wa_iinc (v := (1)) (lv' := fun y19 => [(5, .int y19), (4, .int (bI true)), (3, .int x16), (6, .int l3), (0, .ref 51), (2, .int v1)]) (by decide) rfl (by decide) (fun _ => rfl) (fun y19 hy19 => ?_)
                  have ty19 := i_addT hy19.symm
                  clear hy19
                  refine wa_goto o_X5_tell_65 (by decide) ?_
                  refine wa_pick [4, 5, 2, 1, 0] rfl ?_
                  exact ih7 _ (by ((try simp only [vp_in_iff, Int32.lt_iff_toInt_lt, Int32.le_iff_toInt_le, ← Int32.toInt_inj, Int32.reduceToInt, n_1, n_2, n_8, Int32.toNatClampNeg, Int64.lt_iff_toInt_lt, Int64.le_iff_toInt_le, ← Int64.toInt_inj, Int64.reduceToInt, Int32.toInt_toInt64, lg_cmp_ge, lg_cmp_le, lg_cmp_gt, lg_cmp_lt, lg_cmp_eq, Bool.false_eq_true, Bool.true_eq_false, reduceCtorEq, false_iff, true_iff, iff_true, iff_false, and_true, true_and, and_false, false_and, reduceIte, ite_true, ite_false, eq_self] at *)) <;> omega) _ _ _ _ ⟨Fs15, ((Sm.gi fs15 13 (Or.inl (by decide))).trans (khi8_0)), ((Sm.gi fs15 9 (Or.inl (by decide))).trans (khi8_1)), (by ((try simp only [vp_in_iff, Int32.lt_iff_toInt_lt, Int32.le_iff_toInt_le, ← Int32.toInt_inj, Int32.reduceToInt, n_1, n_2, n_8, Int32.toNatClampNeg, Int64.lt_iff_toInt_lt, Int64.le_iff_toInt_le, ← Int64.toInt_inj, Int64.reduceToInt, Int32.toInt_toInt64, lg_cmp_ge, lg_cmp_le, lg_cmp_gt, lg_cmp_lt, lg_cmp_eq, Bool.false_eq_true, Bool.true_eq_false, reduceCtorEq, false_iff, true_iff, iff_true, iff_false, and_true, true_and, and_false, false_and, reduceIte, ite_true, ite_false, eq_self] at *)) <;> omega), trivial⟩ rfl
        exact hi8 _ _ _ _ _ ⟨Fs2, (khi4_0), (khi4_1), (by ((try simp only [vp_in_iff, Int32.lt_iff_toInt_lt, Int32.le_iff_toInt_le, ← Int32.toInt_inj, Int32.reduceToInt, n_1, n_2, n_8, Int32.toNatClampNeg, Int64.lt_iff_toInt_lt, Int64.le_iff_toInt_le, ← Int64.toInt_inj, Int64.reduceToInt, Int32.toInt_toInt64, lg_cmp_ge, lg_cmp_le, lg_cmp_gt, lg_cmp_lt, lg_cmp_eq, Bool.false_eq_true, Bool.true_eq_false, reduceCtorEq, false_iff, true_iff, iff_true, iff_false, and_true, true_and, and_false, false_and, reduceIte, ite_true, ite_false, eq_self] at *)) <;> omega), trivial⟩ rfl
      · have mh5 := nle_mx h5
        refine wa_aload_n (i := 0) rfl rfl ?_
        refine wa_getr ck_5 fl_5_11 ly_51 rf_51_1 ?_
        refine wa_iload_n (i := 3) rfl rfl ?_
        refine wa_aload_n (i := 0) rfl rfl ?_
        refine wa_getr ck_5 fl_5_37 ly_51 rf_51_0 ?_
        refine wa_iload_n (i := 3) rfl rfl ?_
        refine wa_iconst (v := 1) (by decide) ?_
        refine wa_iload_n (i := 1) rfl rfl ?_
        refine wa_ishl ?_
        refine wa_top (fun v20 hv20 => ?_)
        clear hv20
        refine wa_iconst (v := 0) (by decide) ?_
        refine wa_Vi (d9 := d - 1) [.int _, .int _, .int _] [.int l3, .ref 52] (sp_X6_acceptedBy G (d := d - 1) (by omega) s2 _ _ _) (rfl) rfl rfl (zr (by omega)) mk_X6_acceptedBy ly_31 ml_5_63 (Nat.le_of_ble_eq_true rfl) (fun x22 s21 hs21 => ?_)
        obtain ⟨zs21, -⟩ := pI hs21
        subst zs21
        refine wa_iast ly_52 (by ((try simp only [vp_in_iff, Int32.lt_iff_toInt_lt, Int32.le_iff_toInt_le, ← Int32.toInt_inj, Int32.reduceToInt, n_1, n_2, n_8, Int32.toNatClampNeg, Int64.lt_iff_toInt_lt, Int64.le_iff_toInt_le, ← Int64.toInt_inj, Int64.reduceToInt, Int32.toInt_toInt64, lg_cmp_ge, lg_cmp_le, lg_cmp_gt, lg_cmp_lt, lg_cmp_eq, Bool.false_eq_true, Bool.true_eq_false, reduceCtorEq, false_iff, true_iff, iff_true, iff_false, and_true, true_and, and_false, false_and, reduceIte, ite_true, ite_false, eq_self] at *)) <;> omega) (fun s23 hs23 => ?_)
        have Fs23 : Sm 51 60 σ s23 := by rw [hs23]; exact Sm.si Fs2 _ _ (by decide) (by decide)
        refine wa_aload_n (i := 0) rfl rfl ?_
        refine wa_getr ck_5 fl_5_15 ly_51 rf_51_2 ?_
        refine wa_iload_n (i := 3) rfl rfl ?_
        refine wa_aload_n (i := 0) rfl rfl ?_
        refine wa_getr ck_5 fl_5_11 ly_51 rf_51_1 ?_
        refine wa_iload_n (i := 3) rfl rfl ?_
        refine wa_iald ly_52 (by ((try simp only [vp_in_iff, Int32.lt_iff_toInt_lt, Int32.le_iff_toInt_le, ← Int32.toInt_inj, Int32.reduceToInt, n_1, n_2, n_8, Int32.toNatClampNeg, Int64.lt_iff_toInt_lt, Int64.le_iff_toInt_le, ← Int64.toInt_inj, Int64.reduceToInt, Int32.toInt_toInt64, lg_cmp_ge, lg_cmp_le, lg_cmp_gt, lg_cmp_lt, lg_cmp_eq, Bool.false_eq_true, Bool.true_eq_false, reduceCtorEq, false_iff, true_iff, iff_true, iff_false, and_true, true_and, and_false, false_and, reduceIte, ite_true, ite_false, eq_self] at *)) <;> omega) ?_
        refine wa_iast ly_53 (by ((try simp only [vp_in_iff, Int32.lt_iff_toInt_lt, Int32.le_iff_toInt_le, ← Int32.toInt_inj, Int32.reduceToInt, n_1, n_2, n_8, Int32.toNatClampNeg, Int64.lt_iff_toInt_lt, Int64.le_iff_toInt_le, ← Int64.toInt_inj, Int64.reduceToInt, Int32.toInt_toInt64, lg_cmp_ge, lg_cmp_le, lg_cmp_gt, lg_cmp_lt, lg_cmp_eq, Bool.false_eq_true, Bool.true_eq_false, reduceCtorEq, false_iff, true_iff, iff_true, iff_false, and_true, true_and, and_false, false_and, reduceIte, ite_true, ite_false, eq_self] at *)) <;> omega) (fun s24 hs24 => ?_)
        have Fs24 : Sm 51 60 σ s24 := by rw [hs24]; exact Sm.si Fs23 _ _ (by decide) (by decide)
        refine wa_iinc (v := (1)) (lv' := fun y25 => [(3, .int y25), (0, .ref 51), (1, .int a0), (2, .int v1)]) (by decide) rfl (by decide) (fun _ => rfl) (fun y25 hy25 => ?_)
        have ty25 := i_addT hy25.symm
        clear hy25
        refine wa_goto o_X5_tell_16 (by decide) ?_
        refine wa_pick [1, 2, 3, 0] rfl ?_
        exact ih3 _ (by ((try simp only [vp_in_iff, Int32.lt_iff_toInt_lt, Int32.le_iff_toInt_le, ← Int32.toInt_inj, Int32.reduceToInt, n_1, n_2, n_8, Int32.toNatClampNeg, Int64.lt_iff_toInt_lt, Int64.le_iff_toInt_le, ← Int64.toInt_inj, Int64.reduceToInt, Int32.toInt_toInt64, lg_cmp_ge, lg_cmp_le, lg_cmp_gt, lg_cmp_lt, lg_cmp_eq, Bool.false_eq_true, Bool.true_eq_false, reduceCtorEq, false_iff, true_iff, iff_true, iff_false, and_true, true_and, and_false, false_and, reduceIte, ite_true, ite_false, eq_self] at *)) <;> omega) _ _ ⟨Fs24, ((nxq_gi_si hs24 (by decide)).trans ((nxq_gi_si hs23 (by decide)).trans (khi4_0))), ((nxq_gi_si hs24 (by decide)).trans ((nxq_gi_si hs23 (by decide)).trans (khi4_1))), (by ((try simp only [vp_in_iff, Int32.lt_iff_toInt_lt, Int32.le_iff_toInt_le, ← Int32.toInt_inj, Int32.reduceToInt, n_1, n_2, n_8, Int32.toNatClampNeg, Int64.lt_iff_toInt_lt, Int64.le_iff_toInt_le, ← Int64.toInt_inj, Int64.reduceToInt, Int32.toInt_toInt64, lg_cmp_ge, lg_cmp_le, lg_cmp_gt, lg_cmp_lt, lg_cmp_eq, Bool.false_eq_true, Bool.true_eq_false, reduceCtorEq, false_iff, true_iff, iff_true, iff_false, and_true, true_and, and_false, false_and, reduceIte, ite_true, ite_false, eq_self] at *)) <;> omega), trivial⟩ rfl
  exact hi4 _ _ _ ⟨(Sm.rf 51 60 σ), (rfl), (rfl), (by ((try simp only [vp_in_iff, Int32.lt_iff_toInt_lt, Int32.le_iff_toInt_le, ← Int32.toInt_inj, Int32.reduceToInt, n_1, n_2, n_8, Int32.toNatClampNeg, Int64.lt_iff_toInt_lt, Int64.le_iff_toInt_le, ← Int64.toInt_inj, Int64.reduceToInt, Int32.toInt_toInt64, lg_cmp_ge, lg_cmp_le, lg_cmp_gt, lg_cmp_lt, lg_cmp_eq, Bool.false_eq_true, Bool.true_eq_false, reduceCtorEq, false_iff, true_iff, iff_true, iff_false, and_true, true_and, and_false, false_and, reduceIte, ite_true, ite_false, eq_self] at *)) <;> omega), trivial⟩ rfl
set_option maxRecDepth 100000 in
set_option maxHeartbeats 4000000 in
theorem sp_J7_fill_53178_at_40 (G : kG9) {d : Nat} (hd : 0 ≤ d) (σ : St) (a1 : Int32) : Ct G M_J7_fill_53178 d [.ref 40, .int a1] σ (fun r σ' => Sm 40 41 σ σ' ∧ True) := by
  refine wa_startF (by decide +kernel) rfl (Nat.le_of_ble_eq_true rfl) (lv := [(0, .ref 40), (1, .int a1)]) rfl o_J7_fill_53178_0 rfl ?_
  have ua1 := Int32.toInt_lt a1
  have wa1 := Int32.le_toInt a1
  refine wa_iconst (v := 0) (by decide) ?_
  refine wa_istore_nD (lv' := [(2, .int 0), (0, .ref 40), (1, .int a1)]) (i := 2) rfl (by decide) rfl ?_
  refine wa_aload_n (i := 0) rfl rfl ?_
  refine wa_alen ly_40 (by decide) ?_
  refine wa_rw (show Int32.ofNat 8192 = 8192 from rfl) ?_
  refine wa_istore_nD (lv' := [(3, .int 8192), (2, .int 0), (0, .ref 40), (1, .int a1)]) (i := 3) rfl (by decide) rfl ?_
  refine wa_pick [2, 3, 1, 0] rfl ?_
  have hi3 : ∀ (n9_5 : Nat) (l2 : Int32) (s1 : St), ((Sm 40 41 σ s1) ∧ (0 ≤ l2.toInt) ∧ (True)) → (2147483647 - l2.toInt).toNat = n9_5 → WA G M_J7_fill_53178 (ZM G M_J7_fill_53178 d (fun r σ' => Sm 40 41 σ σ' ∧ True)) B_J7_fill_53178_5 [(0, .ref 40), (1, .int a1), (2, .int l2), (3, .int 8192)] [] s1 := by
    intro n9_5
    induction n9_5 using Nat.strongRecOn with
    | _ n9_5 ih2 =>
      intro l2 s1 i9 m9_5
      obtain ⟨Fs1, jhi3_0, -⟩ := i9
      have ul2 := Int32.toInt_lt l2
      have wl2 := Int32.le_toInt l2
      refine wa_iload_n (i := 2) rfl rfl ?_
      refine wa_iload_n (i := 3) rfl rfl ?_
      refine wa_icmp_ge o_J7_fill_53178_20 (by decide) (fun h4 => ?_) (fun h4 => ?_)
      · refine wa_return (st := []) rfl rfl ?_
        exact ⟨Fs1, trivial⟩
      · have mh4 := nle_mx h4
        refine wa_aload_n (i := 0) rfl rfl ?_
        refine wa_iload_n (i := 2) rfl rfl ?_
        refine wa_iload_n (i := 1) rfl rfl ?_
        refine wa_iast ly_40 (by ((try simp only [vp_in_iff, Int32.lt_iff_toInt_lt, Int32.le_iff_toInt_le, ← Int32.toInt_inj, Int32.reduceToInt, n_1, n_2, n_8, Int32.toNatClampNeg, Int64.lt_iff_toInt_lt, Int64.le_iff_toInt_le, ← Int64.toInt_inj, Int64.reduceToInt, Int32.toInt_toInt64, lg_cmp_ge, lg_cmp_le, lg_cmp_gt, lg_cmp_lt, lg_cmp_eq, Bool.false_eq_true, Bool.true_eq_false, reduceCtorEq, false_iff, true_iff, iff_true, iff_false, and_true, true_and, and_false, false_and, reduceIte, ite_true, ite_false, eq_self] at *)) <;> omega) (fun s5 hs5 => ?_)
        have Fs5 : Sm 40 41 σ s5 := by rw [hs5]; exact Sm.si Fs1 _ _ (by decide) (by decide)
        refine wa_iinc (v := (1)) (lv' := fun y6 => [(2, .int y6), (0, .ref 40), (1, .int a1), (3, .int 8192)]) (by decide) rfl (by decide) (fun _ => rfl) (fun y6 hy6 => ?_)
        have ty6 := i_addT hy6.symm
        clear hy6
        refine wa_goto o_J7_fill_53178_5 (by decide) ?_
        refine wa_pick [1, 2, 0, 3] rfl ?_
        exact ih2 _ (by ((try simp only [vp_in_iff, Int32.lt_iff_toInt_lt, Int32.le_iff_toInt_le, ← Int32.toInt_inj, Int32.reduceToInt, n_1, n_2, n_8, Int32.toNatClampNeg, Int64.lt_iff_toInt_lt, Int64.le_iff_toInt_le, ← Int64.toInt_inj, Int64.reduceToInt, Int32.toInt_toInt64, lg_cmp_ge, lg_cmp_le, lg_cmp_gt, lg_cmp_lt, lg_cmp_eq, Bool.false_eq_true, Bool.true_eq_false, reduceCtorEq, false_iff, true_iff, iff_true, iff_false, and_true, true_and, and_false, false_and, reduceIte, ite_true, ite_false, eq_self] at *)) <;> omega) _ _ ⟨Fs5, (by ((try simp only [vp_in_iff, Int32.lt_iff_toInt_lt, Int32.le_iff_toInt_le, ← Int32.toInt_inj, Int32.reduceToInt, n_1, n_2, n_8, Int32.toNatClampNeg, Int64.lt_iff_toInt_lt, Int64.le_iff_toInt_le, ← Int64.toInt_inj, Int64.reduceToInt, Int32.toInt_toInt64, lg_cmp_ge, lg_cmp_le, lg_cmp_gt, lg_cmp_lt, lg_cmp_eq, Bool.false_eq_true, Bool.true_eq_false, reduceCtorEq, false_iff, true_iff, iff_true, iff_false, and_true, true_and, and_false, false_and, reduceIte, ite_true, ite_false, eq_self] at *)) <;> omega), trivial⟩ rfl
  exact hi3 _ _ _ ⟨(Sm.rf 40 41 σ), (by ((try simp only [vp_in_iff, Int32.lt_iff_toInt_lt, Int32.le_iff_toInt_le, ← Int32.toInt_inj, Int32.reduceToInt, n_1, n_2, n_8, Int32.toNatClampNeg, Int64.lt_iff_toInt_lt, Int64.le_iff_toInt_le, ← Int64.toInt_inj, Int64.reduceToInt, Int32.toInt_toInt64, lg_cmp_ge, lg_cmp_le, lg_cmp_gt, lg_cmp_lt, lg_cmp_eq, Bool.false_eq_true, Bool.true_eq_false, reduceCtorEq, false_iff, true_iff, iff_true, iff_false, and_true, true_and, and_false, false_and, reduceIte, ite_true, ite_false, eq_self] at *)) <;> omega), trivial⟩ rfl
set_option maxHeartbeats 4000000 in
theorem sp_X6_addPlace (G : kG9) {d : Nat} (hd : 0 ≤ d) (σ : St) (a0 : Int32) (r1 : 0 ≤ (gi σ 31 13).toInt ∧ (gi σ 31 13).toInt ≤ 3000) : Ct G M_X6_addPlace d [.ref 31, .int a0] σ (fun r σ' => ∃ x : Int32, r = some (.int x) ∧ Sm 31 41 σ σ' ∧ (0 ≤ (gi σ' 31 13).toInt ∧ (gi σ' 31 13).toInt ≤ 3000) ∧ True) := by
  refine wa_start (by decide) rfl (Nat.le_of_ble_eq_true rfl) (lv := [(0, .ref 31), (1, .int a0)]) rfl o_X6_addPlace_0 rfl ?_
  have ua0 := Int32.toInt_lt a0
  have wa0 := Int32.le_toInt a0
  refine wa_aload_n (i := 0) rfl rfl ?_
  refine wa_geti ck_6 fl_6_52 ly_31 ?_
  refine wa_if_lt o_X6_addPlace_17 (by decide) (fun h1 => ?_) (fun h1 => ?_)
  · refine wa_iconst (v := (-1)) (by decide) ?_
    refine wa_ireturn rfl rfl ?_
    exact ⟨_, rfl, (Sm.rf 31 41 σ), (by first | assumption | (((try simp only [vp_in_iff, Int32.lt_iff_toInt_lt, Int32.le_iff_toInt_le, ← Int32.toInt_inj, Int32.reduceToInt, n_1, n_2, n_8, Int32.toNatClampNeg, Int64.lt_iff_toInt_lt, Int64.le_iff_toInt_le, ← Int64.toInt_inj, Int64.reduceToInt, Int32.toInt_toInt64, lg_cmp_ge, lg_cmp_le, lg_cmp_gt, lg_cmp_lt, lg_cmp_eq, Bool.false_eq_true, Bool.true_eq_false, reduceCtorEq, false_iff, true_iff, iff_true, iff_false, and_true, true_and, and_false, false_and, reduceIte, ite_true, ite_false, eq_self] at *)) <;> omega)), trivial⟩
  · refine wa_aload_n (i := 0) rfl rfl ?_
    refine wa_geti ck_6 fl_6_52 ly_31 ?_
    refine wa_sipush (v := 3000) (by decide) ?_
    refine wa_icmp_lt o_X6_addPlace_19 (by decide) (fun h2 => ?_) (fun h2 => ?_)
    · refine wa_aload_n (i := 0) rfl rfl ?_
      refine wa_geti ck_6 fl_6_52 ly_31 ?_
      refine wa_bipush (v := 32) (by decide) ?_
      refine wa_imul ?_
      refine wa_top (fun v3 hv3 => ?_)
      have tv3 := i_mulT hv3
      clear hv3
      refine wa_istore_nD (lv' := [(2, .int v3), (0, .ref 31), (1, .int a0)]) (i := 2) rfl (by decide) rfl ?_
      refine wa_iconst (v := 0) (by decide) ?_
      refine wa_istore_nD (lv' := [(3, .int 0), (2, .int v3), (0, .ref 31), (1, .int a0)]) (i := 3) rfl (by decide) rfl ?_
      refine wa_pick [2, 3, 1, 0] rfl ?_
      have hi6 : ∀ (n9_29 : Nat) (l3 : Int32) (s4 : St), ((Sm 31 41 σ s4) ∧ (gi s4 31 13 = gi σ 31 13) ∧ (gi s4 31 10 = gi σ 31 10) ∧ (0 ≤ l3.toInt) ∧ (True)) → (2147483647 - l3.toInt).toNat = n9_29 → WA G M_X6_addPlace (ZM G M_X6_addPlace d (fun r σ' => ∃ x : Int32, r = some (.int x) ∧ Sm 31 41 σ σ' ∧ (0 ≤ (gi σ' 31 13).toInt ∧ (gi σ' 31 13).toInt ≤ 3000) ∧ True)) B_X6_addPlace_29 [(0, .ref 31), (1, .int a0), (2, .int v3), (3, .int l3)] [] s4 := by
        intro n9_29
        induction n9_29 using Nat.strongRecOn with
        | _ n9_29 ih5 =>
          intro l3 s4 i9 m9_29
          obtain ⟨Fs4, khi6_0, khi6_1, jhi6_0, -⟩ := i9
          have ul3 := Int32.toInt_lt l3
          have wl3 := Int32.le_toInt l3
          refine wa_iload_n (i := 3) rfl rfl ?_
          refine wa_aload_n (i := 0) rfl rfl ?_
          refine wa_geti ck_6 fl_6_76 ly_31 ?_
          refine wa_rw (khi6_1) ?_
          refine wa_icmp_ge o_X6_addPlace_63 (by decide) (fun h7 => ?_) (fun h7 => ?_)
          · refine wa_aload_n (i := 0) rfl rfl ?_
            refine wa_dup rfl ?_
            refine wa_geti ck_6 fl_6_52 ly_31 ?_
            refine wa_rw (khi6_0) ?_
            refine wa_iconst (v := 1) (by decide) ?_
            refine wa_iadd ?_
            refine wa_top (fun v8 hv8 => ?_)
            have tv8 := i_addT hv8
            clear hv8
            refine wa_puti ck_6 fl_6_52 ly_31 (fun s9 hs9 => ?_)
            have Fs9 : Sm 31 41 σ s9 := by rw [hs9]; exact Sm.si Fs4 _ _ (by decide) (by decide)
            refine wa_aload_n (i := 0) rfl rfl ?_
            refine wa_getr ck_6 fl_6_41 ly_31 rf_31_9 ?_
            refine wa_iload_n (i := 1) rfl rfl ?_
            refine wa_sipush (v := 8191) (by decide) ?_
            refine wa_iand ?_
            refine wa_top (fun v10 hv10 => ?_)
            have tv10 := i_andT hv10
            clear hv10
            refine wa_aload_n (i := 0) rfl rfl ?_
            refine wa_geti ck_6 fl_6_52 ly_31 ?_
            refine wa_rw (nxe_gi_si hs9) ?_
            refine wa_iast ly_40 (by ((try simp only [vp_in_iff, Int32.lt_iff_toInt_lt, Int32.le_iff_toInt_le, ← Int32.toInt_inj, Int32.reduceToInt, n_1, n_2, n_8, Int32.toNatClampNeg, Int64.lt_iff_toInt_lt, Int64.le_iff_toInt_le, ← Int64.toInt_inj, Int64.reduceToInt, Int32.toInt_toInt64, lg_cmp_ge, lg_cmp_le, lg_cmp_gt, lg_cmp_lt, lg_cmp_eq, Bool.false_eq_true, Bool.true_eq_false, reduceCtorEq, false_iff, true_iff, iff_true, iff_false, and_true, true_and, and_false, false_and, reduceIte, ite_true, ite_false, eq_self] at *)) <;> omega) (fun s11 hs11 => ?_)
            have Fs11 : Sm 31 41 σ s11 := by rw [hs11]; exact Sm.si Fs9 _ _ (by decide) (by decide)
            refine wa_aload_n (i := 0) rfl rfl ?_
            refine wa_geti ck_6 fl_6_52 ly_31 ?_
            refine wa_rw ((nxq_gi_si hs11 (by decide)).trans (nxe_gi_si hs9)) ?_
            refine wa_iconst (v := 1) (by decide) ?_
            refine wa_isub ?_
            refine wa_top (fun v12 hv12 => ?_)
            have tv12 := i_subT hv12
            clear hv12
            refine wa_ireturn rfl rfl ?_
            exact ⟨_, rfl, Fs11, (by rw [(nxq_gi_si hs11 (by decide)).trans (nxe_gi_si hs9)]; first | assumption | (((try simp only [vp_in_iff, Int32.lt_iff_toInt_lt, Int32.le_iff_toInt_le, ← Int32.toInt_inj, Int32.reduceToInt, n_1, n_2, n_8, Int32.toNatClampNeg, Int64.lt_iff_toInt_lt, Int64.le_iff_toInt_le, ← Int64.toInt_inj, Int64.reduceToInt, Int32.toInt_toInt64, lg_cmp_ge, lg_cmp_le, lg_cmp_gt, lg_cmp_lt, lg_cmp_eq, Bool.false_eq_true, Bool.true_eq_false, reduceCtorEq, false_iff, true_iff, iff_true, iff_false, and_true, true_and, and_false, false_and, reduceIte, ite_true, ite_false, eq_self] at *)) <;> omega)), trivial⟩
          · have mh7 := nle_mx h7
            refine wa_iload_n (i := 3) rfl rfl ?_
            refine wa_bipush (v := 32) (by decide) ?_
            refine wa_icmp_ge o_X6_addPlace_63 (by decide) (fun h13 => ?_) (fun h13 => ?_)
            · refine wa_aload_n (i := 0) rfl rfl ?_
              refine wa_dup rfl ?_
              refine wa_geti ck_6 fl_6_52 ly_31 ?_
              refine wa_rw (khi6_0) ?_
              refine wa_iconst (v := 1) (by decide) ?_
              refine wa_iadd ?_
              refine wa_top (fun v14 hv14 => ?_)
              have tv14 := i_addT hv14
              clear hv14
              refine wa_puti ck_6 fl_6_52 ly_31 (fun s15 hs15 => ?_)
              have Fs15 : Sm 31 41 σ s15 := by rw [hs15]; exact Sm.si Fs4 _ _ (by decide) (by decide)
              refine wa_aload_n (i := 0) rfl rfl ?_
              refine wa_getr ck_6 fl_6_41 ly_31 rf_31_9 ?_
              refine wa_iload_n (i := 1) rfl rfl ?_
              refine wa_sipush (v := 8191) (by decide) ?_
              refine wa_iand ?_
              refine wa_top (fun v16 hv16 => ?_)
              have tv16 := i_andT hv16
              clear hv16
              refine wa_aload_n (i := 0) rfl rfl ?_
              refine wa_geti ck_6 fl_6_52 ly_31 ?_
              refine wa_rw (nxe_gi_si hs15) ?_
              refine wa_iast ly_40 (by ((try simp only [vp_in_iff, Int32.lt_iff_toInt_lt, Int32.le_iff_toInt_le, ← Int32.toInt_inj, Int32.reduceToInt, n_1, n_2, n_8, Int32.toNatClampNeg, Int64.lt_iff_toInt_lt, Int64.le_iff_toInt_le, ← Int64.toInt_inj, Int64.reduceToInt, Int32.toInt_toInt64, lg_cmp_ge, lg_cmp_le, lg_cmp_gt, lg_cmp_lt, lg_cmp_eq, Bool.false_eq_true, Bool.true_eq_false, reduceCtorEq, false_iff, true_iff, iff_true, iff_false, and_true, true_and, and_false, false_and, reduceIte, ite_true, ite_false, eq_self] at *)) <;> omega) (fun s17 hs17 => ?_)
              have Fs17 : Sm 31 41 σ s17 := by rw [hs17]; exact Sm.si Fs15 _ _ (by decide) (by decide)
              refine wa_aload_n (i := 0) rfl rfl ?_
              refine wa_geti ck_6 fl_6_52 ly_31 ?_
              refine wa_rw ((nxq_gi_si hs17 (by decide)).trans (nxe_gi_si hs15)) ?_
              refine wa_iconst (v := 1) (by decide) ?_
              refine wa_isub ?_
              refine wa_top (fun v18 hv18 => ?_)
              have tv18 := i_subT hv18
              clear hv18
              refine wa_ireturn rfl rfl ?_
              exact ⟨_, rfl, Fs17, (by rw [(nxq_gi_si hs17 (by decide)).trans (nxe_gi_si hs15)]; first | assumption | (((try simp only [vp_in_iff, Int32.lt_iff_toInt_lt, Int32.le_iff_toInt_le, ← Int32.toInt_inj, Int32.reduceToInt, n_1, n_2, n_8, Int32.toNatClampNeg, Int64.lt_iff_toInt_lt, Int64.le_iff_toInt_le, ← Int64.toInt_inj, Int64.reduceToInt, Int32.toInt_toInt64, lg_cmp_ge, lg_cmp_le, lg_cmp_gt, lg_cmp_lt, lg_cmp_eq, Bool.false_eq_true, Bool.true_eq_false, reduceCtorEq, false_iff, true_iff, iff_true, iff_false, and_true, true_and, and_false, false_and, reduceIte, ite_true, ite_false, eq_self] at *)) <;> omega)), trivial⟩
            · have mh13 := nle_mx h13
              refine wa_aload_n (i := 0) rfl rfl ?_
              refine wa_getr ck_6 fl_6_31 ly_31 rf_31_6 ?_
              refine wa_iload_n (i := 2) rfl rfl ?_
              refine wa_iload_n (i := 3) rfl rfl ?_
              refine wa_iadd ?_
              refine wa_top (fun v19 hv19 => ?_)
              have tv19 := i_addT hv19
              clear hv19
              refine wa_aload_n (i := 0) rfl rfl ?_
              refine wa_getr ck_6 fl_6_27 ly_31 rf_31_5 ?_
              refine wa_iload_n (i := 3) rfl rfl ?_
              refine wa_iald ly_36 (by ((try simp only [vp_in_iff, Int32.lt_iff_toInt_lt, Int32.le_iff_toInt_le, ← Int32.toInt_inj, Int32.reduceToInt, n_1, n_2, n_8, Int32.toNatClampNeg, Int64.lt_iff_toInt_lt, Int64.le_iff_toInt_le, ← Int64.toInt_inj, Int64.reduceToInt, Int32.toInt_toInt64, lg_cmp_ge, lg_cmp_le, lg_cmp_gt, lg_cmp_lt, lg_cmp_eq, Bool.false_eq_true, Bool.true_eq_false, reduceCtorEq, false_iff, true_iff, iff_true, iff_false, and_true, true_and, and_false, false_and, reduceIte, ite_true, ite_false, eq_self] at *)) <;> omega) ?_
              refine wa_iast ly_37 (by ((try simp only [vp_in_iff, Int32.lt_iff_toInt_lt, Int32.le_iff_toInt_le, ← Int32.toInt_inj, Int32.reduceToInt, n_1, n_2, n_8, Int32.toNatClampNeg, Int64.lt_iff_toInt_lt, Int64.le_iff_toInt_le, ← Int64.toInt_inj, Int64.reduceToInt, Int32.toInt_toInt64, lg_cmp_ge, lg_cmp_le, lg_cmp_gt, lg_cmp_lt, lg_cmp_eq, Bool.false_eq_true, Bool.true_eq_false, reduceCtorEq, false_iff, true_iff, iff_true, iff_false, and_true, true_and, and_false, false_and, reduceIte, ite_true, ite_false, eq_self] at *)) <;> omega) (fun s20 hs20 => ?_)
              have Fs20 : Sm 31 41 σ s20 := by rw [hs20]; exact Sm.si Fs4 _ _ (by decide) (by decide)
              refine wa_iinc (v := (1)) (lv' := fun y21 => [(3, .int y21), (0, .ref 31), (1, .int a0), (2, .int v3)]) (by decide) rfl (by decide) (fun _ => rfl) (fun y21 hy21 => ?_)
              have ty21 := i_addT hy21.symm
              clear hy21
              refine wa_goto o_X6_addPlace_29 (by decide) ?_
              refine wa_pick [1, 2, 3, 0] rfl ?_
              exact ih5 _ (by ((try simp only [vp_in_iff, Int32.lt_iff_toInt_lt, Int32.le_iff_toInt_le, ← Int32.toInt_inj, Int32.reduceToInt, n_1, n_2, n_8, Int32.toNatClampNeg, Int64.lt_iff_toInt_lt, Int64.le_iff_toInt_le, ← Int64.toInt_inj, Int64.reduceToInt, Int32.toInt_toInt64, lg_cmp_ge, lg_cmp_le, lg_cmp_gt, lg_cmp_lt, lg_cmp_eq, Bool.false_eq_true, Bool.true_eq_false, reduceCtorEq, false_iff, true_iff, iff_true, iff_false, and_true, true_and, and_false, false_and, reduceIte, ite_true, ite_false, eq_self] at *)) <;> omega) _ _ ⟨Fs20, ((nxq_gi_si hs20 (by decide)).trans (khi6_0)), ((nxq_gi_si hs20 (by decide)).trans (khi6_1)), (by ((try simp only [vp_in_iff, Int32.lt_iff_toInt_lt, Int32.le_iff_toInt_le, ← Int32.toInt_inj, Int32.reduceToInt, n_1, n_2, n_8, Int32.toNatClampNeg, Int64.lt_iff_toInt_lt, Int64.le_iff_toInt_le, ← Int64.toInt_inj, Int64.reduceToInt, Int32.toInt_toInt64, lg_cmp_ge, lg_cmp_le, lg_cmp_gt, lg_cmp_lt, lg_cmp_eq, Bool.false_eq_true, Bool.true_eq_false, reduceCtorEq, false_iff, true_iff, iff_true, iff_false, and_true, true_and, and_false, false_and, reduceIte, ite_true, ite_false, eq_self] at *)) <;> omega), trivial⟩ rfl
      exact hi6 _ _ _ ⟨(Sm.rf 31 41 σ), (rfl), (rfl), (by ((try simp only [vp_in_iff, Int32.lt_iff_toInt_lt, Int32.le_iff_toInt_le, ← Int32.toInt_inj, Int32.reduceToInt, n_1, n_2, n_8, Int32.toNatClampNeg, Int64.lt_iff_toInt_lt, Int64.le_iff_toInt_le, ← Int64.toInt_inj, Int64.reduceToInt, Int32.toInt_toInt64, lg_cmp_ge, lg_cmp_le, lg_cmp_gt, lg_cmp_lt, lg_cmp_eq, Bool.false_eq_true, Bool.true_eq_false, reduceCtorEq, false_iff, true_iff, iff_true, iff_false, and_true, true_and, and_false, false_and, reduceIte, ite_true, ite_false, eq_self] at *)) <;> omega), trivial⟩ rfl
    · refine wa_iconst (v := (-1)) (by decide) ?_
      refine wa_ireturn rfl rfl ?_
      exact ⟨_, rfl, (Sm.rf 31 41 σ), (by first | assumption | (((try simp only [vp_in_iff, Int32.lt_iff_toInt_lt, Int32.le_iff_toInt_le, ← Int32.toInt_inj, Int32.reduceToInt, n_1, n_2, n_8, Int32.toNatClampNeg, Int64.lt_iff_toInt_lt, Int64.le_iff_toInt_le, ← Int64.toInt_inj, Int64.reduceToInt, Int32.toInt_toInt64, lg_cmp_ge, lg_cmp_le, lg_cmp_gt, lg_cmp_lt, lg_cmp_eq, Bool.false_eq_true, Bool.true_eq_false, reduceCtorEq, false_iff, true_iff, iff_true, iff_false, and_true, true_and, and_false, false_and, reduceIte, ite_true, ite_false, eq_self] at *)) <;> omega)), trivial⟩
set_option maxHeartbeats 4000000 in
theorem sp_X6_isFresh (G : kG9) {d : Nat} (hd : 0 ≤ d) (σ : St) (a0 : Int32) (p1 : 0 ≤ a0.toInt) : Ct G M_X6_isFresh d [.ref 31, .int a0] σ (fun r σ' => ∃ x : Bool, r = some (.int (bI x)) ∧ σ = σ' ∧ True) := by
  refine wa_start (by decide) rfl (Nat.le_of_ble_eq_true rfl) (lv := [(0, .ref 31), (1, .int a0)]) rfl o_X6_isFresh_0 rfl ?_
  have ua0 := Int32.toInt_lt a0
  have wa0 := Int32.le_toInt a0
  refine wa_iload_n (i := 1) rfl rfl ?_
  refine wa_sipush (v := 2999) (by decide) ?_
  refine wa_minI zs (allW_in (kT_6 _ (List.mem_of_getElem? (i := 103) rfl)) rfl) (Nat.le_of_ble_eq_true rfl) ?_
  refine wa_top (fun v1 hv1 => ?_)
  have tv1 := i_minI hv1
  clear hv1
  refine wa_bipush (v := 32) (by decide) ?_
  refine wa_imul ?_
  refine wa_top (fun v2 hv2 => ?_)
  have tv2 := i_mulT hv2
  clear hv2
  refine wa_istore_nD (lv' := [(2, .int v2), (0, .ref 31), (1, .int a0)]) (i := 2) rfl (by decide) rfl ?_
  refine wa_iconst (v := 0) (by decide) ?_
  refine wa_istore_nD (lv' := [(3, .int 0), (2, .int v2), (0, .ref 31), (1, .int a0)]) (i := 3) rfl (by decide) rfl ?_
  refine wa_pick [2, 1, 0] rfl ?_
  have hi4 : ∀ (n9_13 : Nat) (l3 : Int32), ((0 ≤ l3.toInt) ∧ (True)) → (2147483647 - l3.toInt).toNat = n9_13 → WA G M_X6_isFresh (ZM G M_X6_isFresh d (fun r σ' => ∃ x : Bool, r = some (.int (bI x)) ∧ σ = σ' ∧ True)) B_X6_isFresh_13 [(0, .ref 31), (2, .int v2), (3, .int l3)] [] σ := by
    intro n9_13
    induction n9_13 using Nat.strongRecOn with
    | _ n9_13 ih3 =>
      intro l3  i9 m9_13
      obtain ⟨jhi4_0, -⟩ := i9
      have ul3 := Int32.toInt_lt l3
      have wl3 := Int32.le_toInt l3
      refine wa_iload_n (i := 3) rfl rfl ?_
      refine wa_aload_n (i := 0) rfl rfl ?_
      refine wa_geti ck_6 fl_6_76 ly_31 ?_
      refine wa_icmp_ge o_X6_isFresh_52 (by decide) (fun h5 => ?_) (fun h5 => ?_)
      · refine wa_iconst (v := 1) (by decide) ?_
        refine wa_zreturn true (rfl) rfl rfl ?_
        exact ⟨_, rfl, rfl, trivial⟩
      · have mh5 := nle_mx h5
        refine wa_iload_n (i := 3) rfl rfl ?_
        refine wa_bipush (v := 32) (by decide) ?_
        refine wa_icmp_ge o_X6_isFresh_52 (by decide) (fun h6 => ?_) (fun h6 => ?_)
        · refine wa_iconst (v := 1) (by decide) ?_
          refine wa_zreturn true (rfl) rfl rfl ?_
          exact ⟨_, rfl, rfl, trivial⟩
        · have mh6 := nle_mx h6
          refine wa_aload_n (i := 0) rfl rfl ?_
          refine wa_getr ck_6 fl_6_31 ly_31 rf_31_6 ?_
          refine wa_iload_n (i := 2) rfl rfl ?_
          refine wa_iload_n (i := 3) rfl rfl ?_
          refine wa_iadd ?_
          refine wa_top (fun v7 hv7 => ?_)
          have tv7 := i_addT hv7
          clear hv7
          refine wa_iald ly_37 (by ((try simp only [vp_in_iff, Int32.lt_iff_toInt_lt, Int32.le_iff_toInt_le, ← Int32.toInt_inj, Int32.reduceToInt, n_1, n_2, n_8, Int32.toNatClampNeg, Int64.lt_iff_toInt_lt, Int64.le_iff_toInt_le, ← Int64.toInt_inj, Int64.reduceToInt, Int32.toInt_toInt64, lg_cmp_ge, lg_cmp_le, lg_cmp_gt, lg_cmp_lt, lg_cmp_eq, Bool.false_eq_true, Bool.true_eq_false, reduceCtorEq, false_iff, true_iff, iff_true, iff_false, and_true, true_and, and_false, false_and, reduceIte, ite_true, ite_false, eq_self] at *)) <;> omega) ?_
          refine wa_aload_n (i := 0) rfl rfl ?_
          refine wa_getr ck_6 fl_6_27 ly_31 rf_31_5 ?_
          refine wa_iload_n (i := 3) rfl rfl ?_
          refine wa_iald ly_36 (by ((try simp only [vp_in_iff, Int32.lt_iff_toInt_lt, Int32.le_iff_toInt_le, ← Int32.toInt_inj, Int32.reduceToInt, n_1, n_2, n_8, Int32.toNatClampNeg, Int64.lt_iff_toInt_lt, Int64.le_iff_toInt_le, ← Int64.toInt_inj, Int64.reduceToInt, Int32.toInt_toInt64, lg_cmp_ge, lg_cmp_le, lg_cmp_gt, lg_cmp_lt, lg_cmp_eq, Bool.false_eq_true, Bool.true_eq_false, reduceCtorEq, false_iff, true_iff, iff_true, iff_false, and_true, true_and, and_false, false_and, reduceIte, ite_true, ite_false, eq_self] at *)) <;> omega) ?_
          refine wa_icmp_eq o_X6_isFresh_46 (by decide) (fun h8 => ?_) (fun h8 => ?_)
          · refine wa_iinc (v := (1)) (lv' := fun y9 => [(3, .int y9), (0, .ref 31), (2, .int v2)]) (by decide) rfl (by decide) (fun _ => rfl) (fun y9 hy9 => ?_)
            have ty9 := i_addT hy9.symm
            clear hy9
            refine wa_goto o_X6_isFresh_13 (by decide) ?_
            refine wa_pick [1, 2, 0] rfl ?_
            exact ih3 _ (by ((try simp only [vp_in_iff, Int32.lt_iff_toInt_lt, Int32.le_iff_toInt_le, ← Int32.toInt_inj, Int32.reduceToInt, n_1, n_2, n_8, Int32.toNatClampNeg, Int64.lt_iff_toInt_lt, Int64.le_iff_toInt_le, ← Int64.toInt_inj, Int64.reduceToInt, Int32.toInt_toInt64, lg_cmp_ge, lg_cmp_le, lg_cmp_gt, lg_cmp_lt, lg_cmp_eq, Bool.false_eq_true, Bool.true_eq_false, reduceCtorEq, false_iff, true_iff, iff_true, iff_false, and_true, true_and, and_false, false_and, reduceIte, ite_true, ite_false, eq_self] at *)) <;> omega) _ ⟨(by ((try simp only [vp_in_iff, Int32.lt_iff_toInt_lt, Int32.le_iff_toInt_le, ← Int32.toInt_inj, Int32.reduceToInt, n_1, n_2, n_8, Int32.toNatClampNeg, Int64.lt_iff_toInt_lt, Int64.le_iff_toInt_le, ← Int64.toInt_inj, Int64.reduceToInt, Int32.toInt_toInt64, lg_cmp_ge, lg_cmp_le, lg_cmp_gt, lg_cmp_lt, lg_cmp_eq, Bool.false_eq_true, Bool.true_eq_false, reduceCtorEq, false_iff, true_iff, iff_true, iff_false, and_true, true_and, and_false, false_and, reduceIte, ite_true, ite_false, eq_self] at *)) <;> omega), trivial⟩ rfl
          · refine wa_iconst (v := 0) (by decide) ?_
            refine wa_zreturn false (rfl) rfl rfl ?_
            exact ⟨_, rfl, rfl, trivial⟩
  exact hi4 _ _ ⟨(by ((try simp only [vp_in_iff, Int32.lt_iff_toInt_lt, Int32.le_iff_toInt_le, ← Int32.toInt_inj, Int32.reduceToInt, n_1, n_2, n_8, Int32.toNatClampNeg, Int64.lt_iff_toInt_lt, Int64.le_iff_toInt_le, ← Int64.toInt_inj, Int64.reduceToInt, Int32.toInt_toInt64, lg_cmp_ge, lg_cmp_le, lg_cmp_gt, lg_cmp_lt, lg_cmp_eq, Bool.false_eq_true, Bool.true_eq_false, reduceCtorEq, false_iff, true_iff, iff_true, iff_false, and_true, true_and, and_false, false_and, reduceIte, ite_true, ite_false, eq_self] at *)) <;> omega), trivial⟩ rfl
set_option maxHeartbeats 4000000 in
theorem sp_X6_locate (G : kG9) {d : Nat} (hd : 1 ≤ d) (σ : St) (r1 : 0 ≤ (gi σ 31 13).toInt ∧ (gi σ 31 13).toInt ≤ 3000) : Ct G M_X6_locate d [.ref 31] σ (fun r σ' => ∃ x : Int32, r = some (.int x) ∧ Sm 31 41 σ σ' ∧ (0 ≤ (gi σ' 31 13).toInt ∧ (gi σ' 31 13).toInt ≤ 3000) ∧ True) := by
  refine wa_start (by decide) rfl (Nat.le_of_ble_eq_true rfl) (lv := [(0, .ref 31)]) rfl o_X6_locate_0 rfl ?_
  refine wa_bipush (v := 7) (by decide) ?_
  refine wa_istore_nD (lv' := [(1, .int 7), (0, .ref 31)]) (i := 1) rfl (by decide) rfl ?_
  refine wa_iconst (v := 0) (by decide) ?_
  refine wa_istore_nD (lv' := [(2, .int 0), (1, .int 7), (0, .ref 31)]) (i := 2) rfl (by decide) rfl ?_
  refine wa_pick [2, 1, 0] rfl ?_
  have hi2 : ∀ (n9_5 : Nat) (l1 : Int32) (l2 : Int32), ((0 ≤ l2.toInt) ∧ (True)) → (2147483647 - l2.toInt).toNat = n9_5 → WA G M_X6_locate (ZM G M_X6_locate d (fun r σ' => ∃ x : Int32, r = some (.int x) ∧ Sm 31 41 σ σ' ∧ (0 ≤ (gi σ' 31 13).toInt ∧ (gi σ' 31 13).toInt ≤ 3000) ∧ True)) B_X6_locate_5 [(0, .ref 31), (1, .int l1), (2, .int l2)] [] σ := by
    intro n9_5
    induction n9_5 using Nat.strongRecOn with
    | _ n9_5 ih1 =>
      intro l1 l2  i9 m9_5
      obtain ⟨jhi2_0, -⟩ := i9
      have ul1 := Int32.toInt_lt l1
      have wl1 := Int32.le_toInt l1
      have ul2 := Int32.toInt_lt l2
      have wl2 := Int32.le_toInt l2
      refine wa_iload_n (i := 2) rfl rfl ?_
      refine wa_aload_n (i := 0) rfl rfl ?_
      refine wa_geti ck_6 fl_6_76 ly_31 ?_
      refine wa_icmp_ge o_X6_locate_37 (by decide) (fun h3 => ?_) (fun h3 => ?_)
      · refine wa_iload_n (i := 1) rfl rfl ?_
        refine wa_iload_n (i := 1) rfl rfl ?_
        refine wa_bipush (v := 15) (by decide) ?_
        refine wa_iushr ?_
        refine wa_top (fun v4 hv4 => ?_)
        clear hv4
        refine wa_ixor ?_
        refine wa_top (fun v5 hv5 => ?_)
        clear hv5
        refine wa_ldc (v := (739982445)) (allW_in (kT_6 _ (List.mem_of_getElem? (i := 142) rfl)) rfl) ?_
        refine wa_imul ?_
        refine wa_top (fun v6 hv6 => ?_)
        have tv6 := i_mulT hv6
        clear hv6
        refine wa_istore_nD (lv' := [(1, .int v6), (0, .ref 31), (2, .int l2)]) (i := 1) rfl (by decide) rfl ?_
        refine wa_iload_n (i := 1) rfl rfl ?_
        refine wa_iload_n (i := 1) rfl rfl ?_
        refine wa_bipush (v := 13) (by decide) ?_
        refine wa_iushr ?_
        refine wa_top (fun v7 hv7 => ?_)
        clear hv7
        refine wa_ixor ?_
        refine wa_top (fun v8 hv8 => ?_)
        clear hv8
        refine wa_sipush (v := 8191) (by decide) ?_
        refine wa_iand ?_
        refine wa_top (fun v9 hv9 => ?_)
        have tv9 := i_andT hv9
        clear hv9
        refine wa_istore_nD (lv' := [(2, .int v9), (1, .int v6), (0, .ref 31)]) (i := 2) rfl (by decide) rfl ?_
        refine wa_iconst (v := 0) (by decide) ?_
        refine wa_istore_nD (lv' := [(3, .int 0), (2, .int v9), (1, .int v6), (0, .ref 31)]) (i := 3) rfl (by decide) rfl ?_
        refine wa_pick [3, 1, 0] rfl ?_
        have hi12 : ∀ (n9_60 : Nat) (l2 : Int32) (l3 : Int32) (s10 : St), ((Sm 31 41 σ s10) ∧ (0 ≤ l3.toInt) ∧ (0 ≤ l2.toInt ∧ l2.toInt ≤ 8191) ∧ (0 ≤ (gi s10 31 13).toInt ∧ (gi s10 31 13).toInt ≤ 3000) ∧ (True)) → (2147483647 - l3.toInt).toNat = n9_60 → WA G M_X6_locate (ZM G M_X6_locate d (fun r σ' => ∃ x : Int32, r = some (.int x) ∧ Sm 31 41 σ σ' ∧ (0 ≤ (gi σ' 31 13).toInt ∧ (gi σ' 31 13).toInt ≤ 3000) ∧ True)) B_X6_locate_60 [(0, .ref 31), (2, .int l2), (3, .int l3)] [] s10 := by
          intro n9_60
          induction n9_60 using Nat.strongRecOn with
          | _ n9_60 ih11 =>
            intro l2 l3 s10 i9 m9_60
            obtain ⟨Fs10, jhi12_0, jhi12_1, jhi12_2, -⟩ := i9
            have ul2 := Int32.toInt_lt l2
            have wl2 := Int32.le_toInt l2
            have ul3 := Int32.toInt_lt l3
            have wl3 := Int32.le_toInt l3
            refine wa_iload_n (i := 3) rfl rfl ?_
            refine wa_sipush (v := 8192) (by decide) ?_
            refine wa_icmp_ge o_X6_locate_114 (by decide) (fun h13 => ?_) (fun h13 => ?_)
            · refine wa_iconst (v := (-1)) (by decide) ?_
              refine wa_ireturn rfl rfl ?_
              exact ⟨_, rfl, Fs10, (by first | assumption | (((try simp only [vp_in_iff, Int32.lt_iff_toInt_lt, Int32.le_iff_toInt_le, ← Int32.toInt_inj, Int32.reduceToInt, n_1, n_2, n_8, Int32.toNatClampNeg, Int64.lt_iff_toInt_lt, Int64.le_iff_toInt_le, ← Int64.toInt_inj, Int64.reduceToInt, Int32.toInt_toInt64, lg_cmp_ge, lg_cmp_le, lg_cmp_gt, lg_cmp_lt, lg_cmp_eq, Bool.false_eq_true, Bool.true_eq_false, reduceCtorEq, false_iff, true_iff, iff_true, iff_false, and_true, true_and, and_false, false_and, reduceIte, ite_true, ite_false, eq_self] at *)) <;> omega)), trivial⟩
            · have mh13 := nle_mx h13
              refine wa_aload_n (i := 0) rfl rfl ?_
              refine wa_getr ck_6 fl_6_41 ly_31 rf_31_9 ?_
              refine wa_iload_n (i := 2) rfl rfl ?_
              refine wa_iald ly_40 (by ((try simp only [vp_in_iff, Int32.lt_iff_toInt_lt, Int32.le_iff_toInt_le, ← Int32.toInt_inj, Int32.reduceToInt, n_1, n_2, n_8, Int32.toNatClampNeg, Int64.lt_iff_toInt_lt, Int64.le_iff_toInt_le, ← Int64.toInt_inj, Int64.reduceToInt, Int32.toInt_toInt64, lg_cmp_ge, lg_cmp_le, lg_cmp_gt, lg_cmp_lt, lg_cmp_eq, Bool.false_eq_true, Bool.true_eq_false, reduceCtorEq, false_iff, true_iff, iff_true, iff_false, and_true, true_and, and_false, false_and, reduceIte, ite_true, ite_false, eq_self] at *)) <;> omega) ?_
              refine wa_iconst (v := 1) (by decide) ?_
              refine wa_isub ?_
              refine wa_top (fun v14 hv14 => ?_)
              have tv14 := i_subT hv14
              clear hv14
              refine wa_istoreD (lv' := [(4, .int v14), (0, .ref 31), (2, .int l2), (3, .int l3)]) (by decide) rfl ?_
              refine wa_iload rfl ?_
              refine wa_if_ge o_X6_locate_88 (by decide) (fun h15 => ?_) (fun h15 => ?_)
              · refine wa_aload_n (i := 0) rfl rfl ?_
                refine wa_iload rfl ?_
                refine wa_Vi (d9 := d - 1) [.int _] [] (sp_X6_isFresh G (d := d - 1) (by omega) s10 _ (by ((try simp only [vp_in_iff, Int32.lt_iff_toInt_lt, Int32.le_iff_toInt_le, ← Int32.toInt_inj, Int32.reduceToInt, n_1, n_2, n_8, Int32.toNatClampNeg, Int64.lt_iff_toInt_lt, Int64.le_iff_toInt_le, ← Int64.toInt_inj, Int64.reduceToInt, Int32.toInt_toInt64, lg_cmp_ge, lg_cmp_le, lg_cmp_gt, lg_cmp_lt, lg_cmp_eq, Bool.false_eq_true, Bool.true_eq_false, reduceCtorEq, false_iff, true_iff, iff_true, iff_false, and_true, true_and, and_false, false_and, reduceIte, ite_true, ite_false, eq_self] at *)) <;> omega)) (rfl) rfl rfl (zr (by omega)) mk_X6_isFresh ly_31 ml_6_120 (Nat.le_of_ble_eq_true rfl) (fun x17 s16 hs16 => ?_)
                obtain ⟨bx17, ex17, zs16, -⟩ := pB hs16
                subst ex17
                subst zs16
                refine wa_if_eq o_X6_locate_100 (by decide) (fun h18 => ?_) (fun h18 => ?_)
                · replace h18 := bI_f (b := bx17) (rfl) h18
                  refine wa_iload_n (i := 2) rfl rfl ?_
                  refine wa_iconst (v := 1) (by decide) ?_
                  refine wa_iadd ?_
                  refine wa_top (fun v19 hv19 => ?_)
                  have tv19 := i_addT hv19
                  clear hv19
                  refine wa_sipush (v := 8191) (by decide) ?_
                  refine wa_iand ?_
                  refine wa_top (fun v20 hv20 => ?_)
                  have tv20 := i_andT hv20
                  clear hv20
                  refine wa_istore_nD (lv' := [(2, .int v20), (4, .int v14), (0, .ref 31), (3, .int l3)]) (i := 2) rfl (by decide) rfl ?_
                  refine wa_iinc (v := (1)) (lv' := fun y21 => [(3, .int y21), (2, .int v20), (4, .int v14), (0, .ref 31)]) (by decide) rfl (by decide) (fun _ => rfl) (fun y21 hy21 => ?_)
                  have ty21 := i_addT hy21.symm
                  clear hy21
                  refine wa_goto o_X6_locate_60 (by decide) ?_
                  refine wa_pick [3, 1, 0] rfl ?_
                  exact ih11 _ (by ((try simp only [vp_in_iff, Int32.lt_iff_toInt_lt, Int32.le_iff_toInt_le, ← Int32.toInt_inj, Int32.reduceToInt, n_1, n_2, n_8, Int32.toNatClampNeg, Int64.lt_iff_toInt_lt, Int64.le_iff_toInt_le, ← Int64.toInt_inj, Int64.reduceToInt, Int32.toInt_toInt64, lg_cmp_ge, lg_cmp_le, lg_cmp_gt, lg_cmp_lt, lg_cmp_eq, Bool.false_eq_true, Bool.true_eq_false, reduceCtorEq, false_iff, true_iff, iff_true, iff_false, and_true, true_and, and_false, false_and, reduceIte, ite_true, ite_false, eq_self] at *)) <;> omega) _ _ _ ⟨Fs10, (by ((try simp only [vp_in_iff, Int32.lt_iff_toInt_lt, Int32.le_iff_toInt_le, ← Int32.toInt_inj, Int32.reduceToInt, n_1, n_2, n_8, Int32.toNatClampNeg, Int64.lt_iff_toInt_lt, Int64.le_iff_toInt_le, ← Int64.toInt_inj, Int64.reduceToInt, Int32.toInt_toInt64, lg_cmp_ge, lg_cmp_le, lg_cmp_gt, lg_cmp_lt, lg_cmp_eq, Bool.false_eq_true, Bool.true_eq_false, reduceCtorEq, false_iff, true_iff, iff_true, iff_false, and_true, true_and, and_false, false_and, reduceIte, ite_true, ite_false, eq_self] at *)) <;> omega), (by ((try simp only [vp_in_iff, Int32.lt_iff_toInt_lt, Int32.le_iff_toInt_le, ← Int32.toInt_inj, Int32.reduceToInt, n_1, n_2, n_8, Int32.toNatClampNeg, Int64.lt_iff_toInt_lt, Int64.le_iff_toInt_le, ← Int64.toInt_inj, Int64.reduceToInt, Int32.toInt_toInt64, lg_cmp_ge, lg_cmp_le, lg_cmp_gt, lg_cmp_lt, lg_cmp_eq, Bool.false_eq_true, Bool.true_eq_false, reduceCtorEq, false_iff, true_iff, iff_true, iff_false, and_true, true_and, and_false, false_and, reduceIte, ite_true, ite_false, eq_self] at *)) <;> omega), (by first | assumption | (((try simp only [vp_in_iff, Int32.lt_iff_toInt_lt, Int32.le_iff_toInt_le, ← Int32.toInt_inj, Int32.reduceToInt, n_1, n_2, n_8, Int32.toNatClampNeg, Int64.lt_iff_toInt_lt, Int64.le_iff_toInt_le, ← Int64.toInt_inj, Int64.reduceToInt, Int32.toInt_toInt64, lg_cmp_ge, lg_cmp_le, lg_cmp_gt, lg_cmp_lt, lg_cmp_eq, Bool.false_eq_true, Bool.true_eq_false, reduceCtorEq, false_iff, true_iff, iff_true, iff_false, and_true, true_and, and_false, false_and, reduceIte, ite_true, ite_false, eq_self] at *)) <;> omega)), trivial⟩ rfl
                · replace h18 := bI_t (b := bx17) (rfl) h18
                  refine wa_iload rfl ?_
                  refine wa_ireturn rfl rfl ?_
                  exact ⟨_, rfl, Fs10, (by first | assumption | (((try simp only [vp_in_iff, Int32.lt_iff_toInt_lt, Int32.le_iff_toInt_le, ← Int32.toInt_inj, Int32.reduceToInt, n_1, n_2, n_8, Int32.toNatClampNeg, Int64.lt_iff_toInt_lt, Int64.le_iff_toInt_le, ← Int64.toInt_inj, Int64.reduceToInt, Int32.toInt_toInt64, lg_cmp_ge, lg_cmp_le, lg_cmp_gt, lg_cmp_lt, lg_cmp_eq, Bool.false_eq_true, Bool.true_eq_false, reduceCtorEq, false_iff, true_iff, iff_true, iff_false, and_true, true_and, and_false, false_and, reduceIte, ite_true, ite_false, eq_self] at *)) <;> omega)), trivial⟩
              · refine wa_aload_n (i := 0) rfl rfl ?_
                refine wa_iload_n (i := 2) rfl rfl ?_
                refine wa_Vi (d9 := d - 1) [.int _] [] (sp_X6_addPlace G (d := d - 1) (by omega) s10 _ (by first | assumption | exact Or.inl rfl | exact Or.inr rfl | (((try simp only [vp_in_iff, Int32.lt_iff_toInt_lt, Int32.le_iff_toInt_le, ← Int32.toInt_inj, Int32.reduceToInt, n_1, n_2, n_8, Int32.toNatClampNeg, Int64.lt_iff_toInt_lt, Int64.le_iff_toInt_le, ← Int64.toInt_inj, Int64.reduceToInt, Int32.toInt_toInt64, lg_cmp_ge, lg_cmp_le, lg_cmp_gt, lg_cmp_lt, lg_cmp_eq, Bool.false_eq_true, Bool.true_eq_false, reduceCtorEq, false_iff, true_iff, iff_true, iff_false, and_true, true_and, and_false, false_and, reduceIte, ite_true, ite_false, eq_self] at *)) <;> omega))) (rfl) rfl rfl (zr (by omega)) mk_X6_addPlace ly_31 ml_6_117 (Nat.le_of_ble_eq_true rfl) (fun x23 s22 hs22 => ?_)
                obtain ⟨fs22, cx23_1, -⟩ := pI hs22
                have Fs22 := Sm.tr Fs10 (Sm.wd fs22 (lo' := 31) (hi' := 41) (by decide) (by decide))
                refine wa_ireturn rfl rfl ?_
                exact ⟨_, rfl, Fs22, (by first | assumption | (((try simp only [vp_in_iff, Int32.lt_iff_toInt_lt, Int32.le_iff_toInt_le, ← Int32.toInt_inj, Int32.reduceToInt, n_1, n_2, n_8, Int32.toNatClampNeg, Int64.lt_iff_toInt_lt, Int64.le_iff_toInt_le, ← Int64.toInt_inj, Int64.reduceToInt, Int32.toInt_toInt64, lg_cmp_ge, lg_cmp_le, lg_cmp_gt, lg_cmp_lt, lg_cmp_eq, Bool.false_eq_true, Bool.true_eq_false, reduceCtorEq, false_iff, true_iff, iff_true, iff_false, and_true, true_and, and_false, false_and, reduceIte, ite_true, ite_false, eq_self] at *)) <;> omega)), trivial⟩
        exact hi12 _ _ _ _ ⟨(Sm.rf 31 41 σ), (by ((try simp only [vp_in_iff, Int32.lt_iff_toInt_lt, Int32.le_iff_toInt_le, ← Int32.toInt_inj, Int32.reduceToInt, n_1, n_2, n_8, Int32.toNatClampNeg, Int64.lt_iff_toInt_lt, Int64.le_iff_toInt_le, ← Int64.toInt_inj, Int64.reduceToInt, Int32.toInt_toInt64, lg_cmp_ge, lg_cmp_le, lg_cmp_gt, lg_cmp_lt, lg_cmp_eq, Bool.false_eq_true, Bool.true_eq_false, reduceCtorEq, false_iff, true_iff, iff_true, iff_false, and_true, true_and, and_false, false_and, reduceIte, ite_true, ite_false, eq_self] at *)) <;> omega), (by ((try simp only [vp_in_iff, Int32.lt_iff_toInt_lt, Int32.le_iff_toInt_le, ← Int32.toInt_inj, Int32.reduceToInt, n_1, n_2, n_8, Int32.toNatClampNeg, Int64.lt_iff_toInt_lt, Int64.le_iff_toInt_le, ← Int64.toInt_inj, Int64.reduceToInt, Int32.toInt_toInt64, lg_cmp_ge, lg_cmp_le, lg_cmp_gt, lg_cmp_lt, lg_cmp_eq, Bool.false_eq_true, Bool.true_eq_false, reduceCtorEq, false_iff, true_iff, iff_true, iff_false, and_true, true_and, and_false, false_and, reduceIte, ite_true, ite_false, eq_self] at *)) <;> omega), (by first | assumption | (((try simp only [vp_in_iff, Int32.lt_iff_toInt_lt, Int32.le_iff_toInt_le, ← Int32.toInt_inj, Int32.reduceToInt, n_1, n_2, n_8, Int32.toNatClampNeg, Int64.lt_iff_toInt_lt, Int64.le_iff_toInt_le, ← Int64.toInt_inj, Int64.reduceToInt, Int32.toInt_toInt64, lg_cmp_ge, lg_cmp_le, lg_cmp_gt, lg_cmp_lt, lg_cmp_eq, Bool.false_eq_true, Bool.true_eq_false, reduceCtorEq, false_iff, true_iff, iff_true, iff_false, and_true, true_and, and_false, false_and, reduceIte, ite_true, ite_false, eq_self] at *)) <;> omega)), trivial⟩ rfl
      · have mh3 := nle_mx h3
        refine wa_iload_n (i := 2) rfl rfl ?_
        refine wa_bipush (v := 32) (by decide) ?_
        refine wa_icmp_ge o_X6_locate_37 (by decide) (fun h24 => ?_) (fun h24 => ?_)
        · refine wa_iload_n (i := 1) rfl rfl ?_
          refine wa_iload_n (i := 1) rfl rfl ?_
          refine wa_bipush (v := 15) (by decide) ?_
          refine wa_iushr ?_
          refine wa_top (fun v25 hv25 => ?_)
          clear hv25
          refine wa_ixor ?_
          refine wa_top (fun v26 hv26 => ?_)
          clear hv26
          refine wa_ldc (v := (739982445)) (allW_in (kT_6 _ (List.mem_of_getElem? (i := 142) rfl)) rfl) ?_
          refine wa_imul ?_
          refine wa_top (fun v27 hv27 => ?_)
          have tv27 := i_mulT hv27
          clear hv27
          refine wa_istore_nD (lv' := [(1, .int v27), (0, .ref 31), (2, .int l2)]) (i := 1) rfl (by decide) rfl ?_
          refine wa_iload_n (i := 1) rfl rfl ?_
          refine wa_iload_n (i := 1) rfl rfl ?_
          refine wa_bipush (v := 13) (by decide) ?_
          refine wa_iushr ?_
          refine wa_top (fun v28 hv28 => ?_)
          clear hv28
          refine wa_ixor ?_
          refine wa_top (fun v29 hv29 => ?_)
          clear hv29
          refine wa_sipush (v := 8191) (by decide) ?_
          refine wa_iand ?_
          refine wa_top (fun v30 hv30 => ?_)
          have tv30 := i_andT hv30
          clear hv30
          refine wa_istore_nD (lv' := [(2, .int v30), (1, .int v27), (0, .ref 31)]) (i := 2) rfl (by decide) rfl ?_
          refine wa_iconst (v := 0) (by decide) ?_
          refine wa_istore_nD (lv' := [(3, .int 0), (2, .int v30), (1, .int v27), (0, .ref 31)]) (i := 3) rfl (by decide) rfl ?_
          refine wa_pick [3, 1, 0] rfl ?_
          have hi33 : ∀ (n9_60 : Nat) (l2 : Int32) (l3 : Int32) (s31 : St), ((Sm 31 41 σ s31) ∧ (0 ≤ l3.toInt) ∧ (0 ≤ l2.toInt ∧ l2.toInt ≤ 8191) ∧ (0 ≤ (gi s31 31 13).toInt ∧ (gi s31 31 13).toInt ≤ 3000) ∧ (True)) → (2147483647 - l3.toInt).toNat = n9_60 → WA G M_X6_locate (ZM G M_X6_locate d (fun r σ' => ∃ x : Int32, r = some (.int x) ∧ Sm 31 41 σ σ' ∧ (0 ≤ (gi σ' 31 13).toInt ∧ (gi σ' 31 13).toInt ≤ 3000) ∧ True)) B_X6_locate_60 [(0, .ref 31), (2, .int l2), (3, .int l3)] [] s31 := by
            intro n9_60
            induction n9_60 using Nat.strongRecOn with
            | _ n9_60 ih32 =>
              intro l2 l3 s31 i9 m9_60
              obtain ⟨Fs31, jhi33_0, jhi33_1, jhi33_2, -⟩ := i9
              have ul2 := Int32.toInt_lt l2
              have wl2 := Int32.le_toInt l2
              have ul3 := Int32.toInt_lt l3
              have wl3 := Int32.le_toInt l3
              refine wa_iload_n (i := 3) rfl rfl ?_
              refine wa_sipush (v := 8192) (by decide) ?_
              refine wa_icmp_ge o_X6_locate_114 (by decide) (fun h34 => ?_) (fun h34 => ?_)
              · refine wa_iconst (v := (-1)) (by decide) ?_
                refine wa_ireturn rfl rfl ?_
                exact ⟨_, rfl, Fs31, (by first | assumption | (((try simp only [vp_in_iff, Int32.lt_iff_toInt_lt, Int32.le_iff_toInt_le, ← Int32.toInt_inj, Int32.reduceToInt, n_1, n_2, n_8, Int32.toNatClampNeg, Int64.lt_iff_toInt_lt, Int64.le_iff_toInt_le, ← Int64.toInt_inj, Int64.reduceToInt, Int32.toInt_toInt64, lg_cmp_ge, lg_cmp_le, lg_cmp_gt, lg_cmp_lt, lg_cmp_eq, Bool.false_eq_true, Bool.true_eq_false, reduceCtorEq, false_iff, true_iff, iff_true, iff_false, and_true, true_and, and_false, false_and, reduceIte, ite_true, ite_false, eq_self] at *)) <;> omega)), trivial⟩
              · have mh34 := nle_mx h34
                refine wa_aload_n (i := 0) rfl rfl ?_
                refine wa_getr ck_6 fl_6_41 ly_31 rf_31_9 ?_
                refine wa_iload_n (i := 2) rfl rfl ?_
                refine wa_iald ly_40 (by ((try simp only [vp_in_iff, Int32.lt_iff_toInt_lt, Int32.le_iff_toInt_le, ← Int32.toInt_inj, Int32.reduceToInt, n_1, n_2, n_8, Int32.toNatClampNeg, Int64.lt_iff_toInt_lt, Int64.le_iff_toInt_le, ← Int64.toInt_inj, Int64.reduceToInt, Int32.toInt_toInt64, lg_cmp_ge, lg_cmp_le, lg_cmp_gt, lg_cmp_lt, lg_cmp_eq, Bool.false_eq_true, Bool.true_eq_false, reduceCtorEq, false_iff, true_iff, iff_true, iff_false, and_true, true_and, and_false, false_and, reduceIte, ite_true, ite_false, eq_self] at *)) <;> omega) ?_
                refine wa_iconst (v := 1) (by decide) ?_
                refine wa_isub ?_
                refine wa_top (fun v35 hv35 => ?_)
                have tv35 := i_subT hv35
                clear hv35
                refine wa_istoreD (lv' := [(4, .int v35), (0, .ref 31), (2, .int l2), (3, .int l3)]) (by decide) rfl ?_
                refine wa_iload rfl ?_
                refine wa_if_ge o_X6_locate_88 (by decide) (fun h36 => ?_) (fun h36 => ?_)
                · refine wa_aload_n (i := 0) rfl rfl ?_
                  refine wa_iload rfl ?_
                  refine wa_Vi (d9 := d - 1) [.int _] [] (sp_X6_isFresh G (d := d - 1) (by omega) s31 _ (by ((try simp only [vp_in_iff, Int32.lt_iff_toInt_lt, Int32.le_iff_toInt_le, ← Int32.toInt_inj, Int32.reduceToInt, n_1, n_2, n_8, Int32.toNatClampNeg, Int64.lt_iff_toInt_lt, Int64.le_iff_toInt_le, ← Int64.toInt_inj, Int64.reduceToInt, Int32.toInt_toInt64, lg_cmp_ge, lg_cmp_le, lg_cmp_gt, lg_cmp_lt, lg_cmp_eq, Bool.false_eq_true, Bool.true_eq_false, reduceCtorEq, false_iff, true_iff, iff_true, iff_false, and_true, true_and, and_false, false_and, reduceIte, ite_true, ite_false, eq_self] at *)) <;> omega)) (rfl) rfl rfl (zr (by omega)) mk_X6_isFresh ly_31 ml_6_120 (Nat.le_of_ble_eq_true rfl) (fun x38 s37 hs37 => ?_)
                  obtain ⟨bx38, ex38, zs37, -⟩ := pB hs37
                  subst ex38
                  subst zs37
                  refine wa_if_eq o_X6_locate_100 (by decide) (fun h39 => ?_) (fun h39 => ?_)
                  · replace h39 := bI_f (b := bx38) (rfl) h39
                    refine wa_iload_n (i := 2) rfl rfl ?_
                    refine wa_iconst (v := 1) (by decide) ?_
                    refine wa_iadd ?_
                    refine wa_top (fun v40 hv40 => ?_)
                    have tv40 := i_addT hv40
                    clear hv40
                    refine wa_sipush (v := 8191) (by decide) ?_
                    refine wa_iand ?_
                    refine wa_top (fun v41 hv41 => ?_)
                    have tv41 := i_andT hv41
                    clear hv41
                    refine wa_istore_nD (lv' := [(2, .int v41), (4, .int v35), (0, .ref 31), (3, .int l3)]) (i := 2) rfl (by decide) rfl ?_
                    refine wa_iinc (v := (1)) (lv' := fun y42 => [(3, .int y42), (2, .int v41), (4, .int v35), (0, .ref 31)]) (by decide) rfl (by decide) (fun _ => rfl) (fun y42 hy42 => ?_)
                    have ty42 := i_addT hy42.symm
                    clear hy42
                    refine wa_goto o_X6_locate_60 (by decide) ?_
                    refine wa_pick [3, 1, 0] rfl ?_
                    exact ih32 _ (by ((try simp only [vp_in_iff, Int32.lt_iff_toInt_lt, Int32.le_iff_toInt_le, ← Int32.toInt_inj, Int32.reduceToInt, n_1, n_2, n_8, Int32.toNatClampNeg, Int64.lt_iff_toInt_lt, Int64.le_iff_toInt_le, ← Int64.toInt_inj, Int64.reduceToInt, Int32.toInt_toInt64, lg_cmp_ge, lg_cmp_le, lg_cmp_gt, lg_cmp_lt, lg_cmp_eq, Bool.false_eq_true, Bool.true_eq_false, reduceCtorEq, false_iff, true_iff, iff_true, iff_false, and_true, true_and, and_false, false_and, reduceIte, ite_true, ite_false, eq_self] at *)) <;> omega) _ _ _ ⟨Fs31, (by ((try simp only [vp_in_iff, Int32.lt_iff_toInt_lt, Int32.le_iff_toInt_le, ← Int32.toInt_inj, Int32.reduceToInt, n_1, n_2, n_8, Int32.toNatClampNeg, Int64.lt_iff_toInt_lt, Int64.le_iff_toInt_le, ← Int64.toInt_inj, Int64.reduceToInt, Int32.toInt_toInt64, lg_cmp_ge, lg_cmp_le, lg_cmp_gt, lg_cmp_lt, lg_cmp_eq, Bool.false_eq_true, Bool.true_eq_false, reduceCtorEq, false_iff, true_iff, iff_true, iff_false, and_true, true_and, and_false, false_and, reduceIte, ite_true, ite_false, eq_self] at *)) <;> omega), (by ((try simp only [vp_in_iff, Int32.lt_iff_toInt_lt, Int32.le_iff_toInt_le, ← Int32.toInt_inj, Int32.reduceToInt, n_1, n_2, n_8, Int32.toNatClampNeg, Int64.lt_iff_toInt_lt, Int64.le_iff_toInt_le, ← Int64.toInt_inj, Int64.reduceToInt, Int32.toInt_toInt64, lg_cmp_ge, lg_cmp_le, lg_cmp_gt, lg_cmp_lt, lg_cmp_eq, Bool.false_eq_true, Bool.true_eq_false, reduceCtorEq, false_iff, true_iff, iff_true, iff_false, and_true, true_and, and_false, false_and, reduceIte, ite_true, ite_false, eq_self] at *)) <;> omega), (by first | assumption | (((try simp only [vp_in_iff, Int32.lt_iff_toInt_lt, Int32.le_iff_toInt_le, ← Int32.toInt_inj, Int32.reduceToInt, n_1, n_2, n_8, Int32.toNatClampNeg, Int64.lt_iff_toInt_lt, Int64.le_iff_toInt_le, ← Int64.toInt_inj, Int64.reduceToInt, Int32.toInt_toInt64, lg_cmp_ge, lg_cmp_le, lg_cmp_gt, lg_cmp_lt, lg_cmp_eq, Bool.false_eq_true, Bool.true_eq_false, reduceCtorEq, false_iff, true_iff, iff_true, iff_false, and_true, true_and, and_false, false_and, reduceIte, ite_true, ite_false, eq_self] at *)) <;> omega)), trivial⟩ rfl
                  · replace h39 := bI_t (b := bx38) (rfl) h39
                    refine wa_iload rfl ?_
                    refine wa_ireturn rfl rfl ?_
                    exact ⟨_, rfl, Fs31, (by first | assumption | (((try simp only [vp_in_iff, Int32.lt_iff_toInt_lt, Int32.le_iff_toInt_le, ← Int32.toInt_inj, Int32.reduceToInt, n_1, n_2, n_8, Int32.toNatClampNeg, Int64.lt_iff_toInt_lt, Int64.le_iff_toInt_le, ← Int64.toInt_inj, Int64.reduceToInt, Int32.toInt_toInt64, lg_cmp_ge, lg_cmp_le, lg_cmp_gt, lg_cmp_lt, lg_cmp_eq, Bool.false_eq_true, Bool.true_eq_false, reduceCtorEq, false_iff, true_iff, iff_true, iff_false, and_true, true_and, and_false, false_and, reduceIte, ite_true, ite_false, eq_self] at *)) <;> omega)), trivial⟩
                · refine wa_aload_n (i := 0) rfl rfl ?_
                  refine wa_iload_n (i := 2) rfl rfl ?_
                  refine wa_Vi (d9 := d - 1) [.int _] [] (sp_X6_addPlace G (d := d - 1) (by omega) s31 _ (by first | assumption | exact Or.inl rfl | exact Or.inr rfl | (((try simp only [vp_in_iff, Int32.lt_iff_toInt_lt, Int32.le_iff_toInt_le, ← Int32.toInt_inj, Int32.reduceToInt, n_1, n_2, n_8, Int32.toNatClampNeg, Int64.lt_iff_toInt_lt, Int64.le_iff_toInt_le, ← Int64.toInt_inj, Int64.reduceToInt, Int32.toInt_toInt64, lg_cmp_ge, lg_cmp_le, lg_cmp_gt, lg_cmp_lt, lg_cmp_eq, Bool.false_eq_true, Bool.true_eq_false, reduceCtorEq, false_iff, true_iff, iff_true, iff_false, and_true, true_and, and_false, false_and, reduceIte, ite_true, ite_false, eq_self] at *)) <;> omega))) (rfl) rfl rfl (zr (by omega)) mk_X6_addPlace ly_31 ml_6_117 (Nat.le_of_ble_eq_true rfl) (fun x44 s43 hs43 => ?_)
                  obtain ⟨fs43, cx44_1, -⟩ := pI hs43
                  have Fs43 := Sm.tr Fs31 (Sm.wd fs43 (lo' := 31) (hi' := 41) (by decide) (by decide))
                  refine wa_ireturn rfl rfl ?_
                  exact ⟨_, rfl, Fs43, (by first | assumption | (((try simp only [vp_in_iff, Int32.lt_iff_toInt_lt, Int32.le_iff_toInt_le, ← Int32.toInt_inj, Int32.reduceToInt, n_1, n_2, n_8, Int32.toNatClampNeg, Int64.lt_iff_toInt_lt, Int64.le_iff_toInt_le, ← Int64.toInt_inj, Int64.reduceToInt, Int32.toInt_toInt64, lg_cmp_ge, lg_cmp_le, lg_cmp_gt, lg_cmp_lt, lg_cmp_eq, Bool.false_eq_true, Bool.true_eq_false, reduceCtorEq, false_iff, true_iff, iff_true, iff_false, and_true, true_and, and_false, false_and, reduceIte, ite_true, ite_false, eq_self] at *)) <;> omega)), trivial⟩
          exact hi33 _ _ _ _ ⟨(Sm.rf 31 41 σ), (by ((try simp only [vp_in_iff, Int32.lt_iff_toInt_lt, Int32.le_iff_toInt_le, ← Int32.toInt_inj, Int32.reduceToInt, n_1, n_2, n_8, Int32.toNatClampNeg, Int64.lt_iff_toInt_lt, Int64.le_iff_toInt_le, ← Int64.toInt_inj, Int64.reduceToInt, Int32.toInt_toInt64, lg_cmp_ge, lg_cmp_le, lg_cmp_gt, lg_cmp_lt, lg_cmp_eq, Bool.false_eq_true, Bool.true_eq_false, reduceCtorEq, false_iff, true_iff, iff_true, iff_false, and_true, true_and, and_false, false_and, reduceIte, ite_true, ite_false, eq_self] at *)) <;> omega), (by ((try simp only [vp_in_iff, Int32.lt_iff_toInt_lt, Int32.le_iff_toInt_le, ← Int32.toInt_inj, Int32.reduceToInt, n_1, n_2, n_8, Int32.toNatClampNeg, Int64.lt_iff_toInt_lt, Int64.le_iff_toInt_le, ← Int64.toInt_inj, Int64.reduceToInt, Int32.toInt_toInt64, lg_cmp_ge, lg_cmp_le, lg_cmp_gt, lg_cmp_lt, lg_cmp_eq, Bool.false_eq_true, Bool.true_eq_false, reduceCtorEq, false_iff, true_iff, iff_true, iff_false, and_true, true_and, and_false, false_and, reduceIte, ite_true, ite_false, eq_self] at *)) <;> omega), (by first | assumption | (((try simp only [vp_in_iff, Int32.lt_iff_toInt_lt, Int32.le_iff_toInt_le, ← Int32.toInt_inj, Int32.reduceToInt, n_1, n_2, n_8, Int32.toNatClampNeg, Int64.lt_iff_toInt_lt, Int64.le_iff_toInt_le, ← Int64.toInt_inj, Int64.reduceToInt, Int32.toInt_toInt64, lg_cmp_ge, lg_cmp_le, lg_cmp_gt, lg_cmp_lt, lg_cmp_eq, Bool.false_eq_true, Bool.true_eq_false, reduceCtorEq, false_iff, true_iff, iff_true, iff_false, and_true, true_and, and_false, false_and, reduceIte, ite_true, ite_false, eq_self] at *)) <;> omega)), trivial⟩ rfl
        · have mh24 := nle_mx h24
          refine wa_iload_n (i := 1) rfl rfl ?_
          refine wa_bipush (v := 31) (by decide) ?_
          refine wa_imul ?_
          refine wa_top (fun v45 hv45 => ?_)
          have tv45 := i_mulT hv45
          clear hv45
          refine wa_aload_n (i := 0) rfl rfl ?_
          refine wa_getr ck_6 fl_6_27 ly_31 rf_31_5 ?_
          refine wa_iload_n (i := 2) rfl rfl ?_
          refine wa_iald ly_36 (by ((try simp only [vp_in_iff, Int32.lt_iff_toInt_lt, Int32.le_iff_toInt_le, ← Int32.toInt_inj, Int32.reduceToInt, n_1, n_2, n_8, Int32.toNatClampNeg, Int64.lt_iff_toInt_lt, Int64.le_iff_toInt_le, ← Int64.toInt_inj, Int64.reduceToInt, Int32.toInt_toInt64, lg_cmp_ge, lg_cmp_le, lg_cmp_gt, lg_cmp_lt, lg_cmp_eq, Bool.false_eq_true, Bool.true_eq_false, reduceCtorEq, false_iff, true_iff, iff_true, iff_false, and_true, true_and, and_false, false_and, reduceIte, ite_true, ite_false, eq_self] at *)) <;> omega) ?_
          refine wa_iadd ?_
          refine wa_top (fun v46 hv46 => ?_)
          have tv46 := i_addT hv46
          clear hv46
          refine wa_istore_nD (lv' := [(1, .int v46), (0, .ref 31), (2, .int l2)]) (i := 1) rfl (by decide) rfl ?_
          refine wa_iinc (v := (1)) (lv' := fun y47 => [(2, .int y47), (1, .int v46), (0, .ref 31)]) (by decide) rfl (by decide) (fun _ => rfl) (fun y47 hy47 => ?_)
          have ty47 := i_addT hy47.symm
          clear hy47
          refine wa_goto o_X6_locate_5 (by decide) ?_
          refine wa_pick [2, 1, 0] rfl ?_
          exact ih1 _ (by ((try simp only [vp_in_iff, Int32.lt_iff_toInt_lt, Int32.le_iff_toInt_le, ← Int32.toInt_inj, Int32.reduceToInt, n_1, n_2, n_8, Int32.toNatClampNeg, Int64.lt_iff_toInt_lt, Int64.le_iff_toInt_le, ← Int64.toInt_inj, Int64.reduceToInt, Int32.toInt_toInt64, lg_cmp_ge, lg_cmp_le, lg_cmp_gt, lg_cmp_lt, lg_cmp_eq, Bool.false_eq_true, Bool.true_eq_false, reduceCtorEq, false_iff, true_iff, iff_true, iff_false, and_true, true_and, and_false, false_and, reduceIte, ite_true, ite_false, eq_self] at *)) <;> omega) _ _ ⟨(by ((try simp only [vp_in_iff, Int32.lt_iff_toInt_lt, Int32.le_iff_toInt_le, ← Int32.toInt_inj, Int32.reduceToInt, n_1, n_2, n_8, Int32.toNatClampNeg, Int64.lt_iff_toInt_lt, Int64.le_iff_toInt_le, ← Int64.toInt_inj, Int64.reduceToInt, Int32.toInt_toInt64, lg_cmp_ge, lg_cmp_le, lg_cmp_gt, lg_cmp_lt, lg_cmp_eq, Bool.false_eq_true, Bool.true_eq_false, reduceCtorEq, false_iff, true_iff, iff_true, iff_false, and_true, true_and, and_false, false_and, reduceIte, ite_true, ite_false, eq_self] at *)) <;> omega), trivial⟩ rfl
  exact hi2 _ _ _ ⟨(by ((try simp only [vp_in_iff, Int32.lt_iff_toInt_lt, Int32.le_iff_toInt_le, ← Int32.toInt_inj, Int32.reduceToInt, n_1, n_2, n_8, Int32.toNatClampNeg, Int64.lt_iff_toInt_lt, Int64.le_iff_toInt_le, ← Int64.toInt_inj, Int64.reduceToInt, Int32.toInt_toInt64, lg_cmp_ge, lg_cmp_le, lg_cmp_gt, lg_cmp_lt, lg_cmp_eq, Bool.false_eq_true, Bool.true_eq_false, reduceCtorEq, false_iff, true_iff, iff_true, iff_false, and_true, true_and, and_false, false_and, reduceIte, ite_true, ite_false, eq_self] at *)) <;> omega), trivial⟩ rfl
set_option maxHeartbeats 4000000 in
theorem sp_X6_halved (G : kG9) {d : Nat} (hd : 0 ≤ d) (σ : St) (a0 : Int32) (a1 : Int32) : Ct G M_X6_halved d [.int a0, .int a1] σ (fun r σ' => ∃ x : Int32, r = some (.int x) ∧ σ = σ' ∧ True) := by
  refine wa_start (by decide) rfl (Nat.le_of_ble_eq_true rfl) (lv := [(0, .int a0), (1, .int a1)]) rfl o_X6_halved_0 rfl ?_
  have ua0 := Int32.toInt_lt a0
  have wa0 := Int32.le_toInt a0
  have ua1 := Int32.toInt_lt a1
  have wa1 := Int32.le_toInt a1
  refine wa_iload_n (i := 0) rfl rfl ?_
  refine wa_if_ge o_X6_halved_6 (by decide) (fun h1 => ?_) (fun h1 => ?_)
  · refine wa_iconst (v := 1) (by decide) ?_
    refine wa_iload_n (i := 0) rfl rfl ?_
    refine wa_iconst (v := 4) (by decide) ?_
    refine wa_ishr ?_
    refine wa_top (fun v2 hv2 => ?_)
    clear hv2
    refine wa_maxI zs (allW_in (kT_6 _ (List.mem_of_getElem? (i := 104) rfl)) rfl) (Nat.le_of_ble_eq_true rfl) ?_
    refine wa_top (fun v3 hv3 => ?_)
    have tv3 := i_maxI hv3
    clear hv3
    refine wa_istore_nD (lv' := [(2, .int v3), (0, .int a0), (1, .int a1)]) (i := 2) rfl (by decide) rfl ?_
    refine wa_iload_n (i := 0) rfl rfl ?_
    refine wa_bipush (v := 15) (by decide) ?_
    refine wa_iand ?_
    refine wa_top (fun v4 hv4 => ?_)
    have tv4 := i_andT hv4
    clear hv4
    refine wa_iload_n (i := 1) rfl rfl ?_
    refine wa_iadd ?_
    refine wa_top (fun v5 hv5 => ?_)
    have tv5 := i_addT hv5
    clear hv5
    refine wa_istore_nD (lv' := [(3, .int v5), (2, .int v3), (0, .int a0), (1, .int a1)]) (i := 3) rfl (by decide) rfl ?_
    refine wa_iload_n (i := 2) rfl rfl ?_
    refine wa_iconst (v := 2) (by decide) ?_
    refine wa_irem (by ((try simp only [vp_in_iff, Int32.lt_iff_toInt_lt, Int32.le_iff_toInt_le, ← Int32.toInt_inj, Int32.reduceToInt, n_1, n_2, n_8, Int32.toNatClampNeg, Int64.lt_iff_toInt_lt, Int64.le_iff_toInt_le, ← Int64.toInt_inj, Int64.reduceToInt, Int32.toInt_toInt64, lg_cmp_ge, lg_cmp_le, lg_cmp_gt, lg_cmp_lt, lg_cmp_eq, Bool.false_eq_true, Bool.true_eq_false, reduceCtorEq, false_iff, true_iff, iff_true, iff_false, and_true, true_and, and_false, false_and, reduceIte, ite_true, ite_false, eq_self] at *)) <;> omega) ?_
    refine wa_top (fun v6 hv6 => ?_)
    have tv6 := i_remT hv6
    clear hv6
    refine wa_iconst (v := 1) (by decide) ?_
    refine wa_icmp_ne o_X6_halved_54 (by decide) (fun h7 => ?_) (fun h7 => ?_)
    · refine wa_iload_n (i := 3) rfl rfl ?_
      refine wa_iconst (v := 2) (by decide) ?_
      refine wa_irem (by ((try simp only [vp_in_iff, Int32.lt_iff_toInt_lt, Int32.le_iff_toInt_le, ← Int32.toInt_inj, Int32.reduceToInt, n_1, n_2, n_8, Int32.toNatClampNeg, Int64.lt_iff_toInt_lt, Int64.le_iff_toInt_le, ← Int64.toInt_inj, Int64.reduceToInt, Int32.toInt_toInt64, lg_cmp_ge, lg_cmp_le, lg_cmp_gt, lg_cmp_lt, lg_cmp_eq, Bool.false_eq_true, Bool.true_eq_false, reduceCtorEq, false_iff, true_iff, iff_true, iff_false, and_true, true_and, and_false, false_and, reduceIte, ite_true, ite_false, eq_self] at *)) <;> omega) ?_
      refine wa_top (fun v8 hv8 => ?_)
      have tv8 := i_remT hv8
      clear hv8
      refine wa_iconst (v := 1) (by decide) ?_
      refine wa_icmp_ne o_X6_halved_63 (by decide) (fun h9 => ?_) (fun h9 => ?_)
      · refine wa_iconst (v := 1) (by decide) ?_
        refine wa_iload_n (i := 2) rfl rfl ?_
        refine wa_iconst (v := 2) (by decide) ?_
        refine wa_idiv (by ((try simp only [vp_in_iff, Int32.lt_iff_toInt_lt, Int32.le_iff_toInt_le, ← Int32.toInt_inj, Int32.reduceToInt, n_1, n_2, n_8, Int32.toNatClampNeg, Int64.lt_iff_toInt_lt, Int64.le_iff_toInt_le, ← Int64.toInt_inj, Int64.reduceToInt, Int32.toInt_toInt64, lg_cmp_ge, lg_cmp_le, lg_cmp_gt, lg_cmp_lt, lg_cmp_eq, Bool.false_eq_true, Bool.true_eq_false, reduceCtorEq, false_iff, true_iff, iff_true, iff_false, and_true, true_and, and_false, false_and, reduceIte, ite_true, ite_false, eq_self] at *)) <;> omega) ?_
        refine wa_top (fun v10 hv10 => ?_)
        have tv10 := i_divT hv10
        clear hv10
        refine wa_maxI zs (allW_in (kT_6 _ (List.mem_of_getElem? (i := 104) rfl)) rfl) (Nat.le_of_ble_eq_true rfl) ?_
        refine wa_top (fun v11 hv11 => ?_)
        have tv11 := i_maxI hv11
        clear hv11
        refine wa_istoreD (lv' := [(4, .int v11), (3, .int v5), (2, .int v3), (0, .int a0), (1, .int a1)]) (by decide) rfl ?_
        refine wa_iload rfl ?_
        refine wa_iconst (v := 1) (by decide) ?_
        refine wa_icmp_ne o_X6_halved_83 (by decide) (fun h12 => ?_) (fun h12 => ?_)
        · refine wa_iload rfl ?_
          refine wa_iconst (v := 4) (by decide) ?_
          refine wa_ishl ?_
          refine wa_top (fun v13 hv13 => ?_)
          clear hv13
          refine wa_iload_n (i := 3) rfl rfl ?_
          refine wa_iconst (v := 2) (by decide) ?_
          refine wa_idiv (by ((try simp only [vp_in_iff, Int32.lt_iff_toInt_lt, Int32.le_iff_toInt_le, ← Int32.toInt_inj, Int32.reduceToInt, n_1, n_2, n_8, Int32.toNatClampNeg, Int64.lt_iff_toInt_lt, Int64.le_iff_toInt_le, ← Int64.toInt_inj, Int64.reduceToInt, Int32.toInt_toInt64, lg_cmp_ge, lg_cmp_le, lg_cmp_gt, lg_cmp_lt, lg_cmp_eq, Bool.false_eq_true, Bool.true_eq_false, reduceCtorEq, false_iff, true_iff, iff_true, iff_false, and_true, true_and, and_false, false_and, reduceIte, ite_true, ite_false, eq_self] at *)) <;> omega) ?_
          refine wa_top (fun v14 hv14 => ?_)
          have tv14 := i_divT hv14
          clear hv14
          refine wa_iload rfl ?_
          refine wa_irem (by ((try simp only [vp_in_iff, Int32.lt_iff_toInt_lt, Int32.le_iff_toInt_le, ← Int32.toInt_inj, Int32.reduceToInt, n_1, n_2, n_8, Int32.toNatClampNeg, Int64.lt_iff_toInt_lt, Int64.le_iff_toInt_le, ← Int64.toInt_inj, Int64.reduceToInt, Int32.toInt_toInt64, lg_cmp_ge, lg_cmp_le, lg_cmp_gt, lg_cmp_lt, lg_cmp_eq, Bool.false_eq_true, Bool.true_eq_false, reduceCtorEq, false_iff, true_iff, iff_true, iff_false, and_true, true_and, and_false, false_and, reduceIte, ite_true, ite_false, eq_self] at *)) <;> omega) ?_
          refine wa_top (fun v15 hv15 => ?_)
          have tv15 := i_remT hv15
          clear hv15
          refine wa_ior ?_
          refine wa_top (fun v16 hv16 => ?_)
          clear hv16
          refine wa_ireturn rfl rfl ?_
          exact ⟨_, rfl, rfl, trivial⟩
        · refine wa_bipush (v := (-2)) (by decide) ?_
          refine wa_goto o_X6_halved_94 (by decide) ?_
          refine wa_ireturn rfl rfl ?_
          exact ⟨_, rfl, rfl, trivial⟩
      · refine wa_iconst (v := (-1)) (by decide) ?_
        refine wa_ireturn rfl rfl ?_
        exact ⟨_, rfl, rfl, trivial⟩
    · refine wa_iload_n (i := 3) rfl rfl ?_
      refine wa_iconst (v := 2) (by decide) ?_
      refine wa_irem (by ((try simp only [vp_in_iff, Int32.lt_iff_toInt_lt, Int32.le_iff_toInt_le, ← Int32.toInt_inj, Int32.reduceToInt, n_1, n_2, n_8, Int32.toNatClampNeg, Int64.lt_iff_toInt_lt, Int64.le_iff_toInt_le, ← Int64.toInt_inj, Int64.reduceToInt, Int32.toInt_toInt64, lg_cmp_ge, lg_cmp_le, lg_cmp_gt, lg_cmp_lt, lg_cmp_eq, Bool.false_eq_true, Bool.true_eq_false, reduceCtorEq, false_iff, true_iff, iff_true, iff_false, and_true, true_and, and_false, false_and, reduceIte, ite_true, ite_false, eq_self] at *)) <;> omega) ?_
      refine wa_top (fun v17 hv17 => ?_)
      have tv17 := i_remT hv17
      clear hv17
      refine wa_if_ne o_X6_halved_38 (by decide) (fun h18 => ?_) (fun h18 => ?_)
      · refine wa_iload_n (i := 3) rfl rfl ?_
        refine wa_iload_n (i := 2) rfl rfl ?_
        refine wa_iadd ?_
        refine wa_top (fun v19 hv19 => ?_)
        have tv19 := i_addT hv19
        clear hv19
        refine wa_istoreD (lv' := [(4, .int v19), (3, .int v5), (2, .int v3), (0, .int a0), (1, .int a1)]) (by decide) rfl ?_
        refine wa_iload_n (i := 2) rfl rfl ?_
        refine wa_iconst (v := 4) (by decide) ?_
        refine wa_ishl ?_
        refine wa_top (fun v20 hv20 => ?_)
        clear hv20
        refine wa_iload rfl ?_
        refine wa_iconst (v := 2) (by decide) ?_
        refine wa_idiv (by ((try simp only [vp_in_iff, Int32.lt_iff_toInt_lt, Int32.le_iff_toInt_le, ← Int32.toInt_inj, Int32.reduceToInt, n_1, n_2, n_8, Int32.toNatClampNeg, Int64.lt_iff_toInt_lt, Int64.le_iff_toInt_le, ← Int64.toInt_inj, Int64.reduceToInt, Int32.toInt_toInt64, lg_cmp_ge, lg_cmp_le, lg_cmp_gt, lg_cmp_lt, lg_cmp_eq, Bool.false_eq_true, Bool.true_eq_false, reduceCtorEq, false_iff, true_iff, iff_true, iff_false, and_true, true_and, and_false, false_and, reduceIte, ite_true, ite_false, eq_self] at *)) <;> omega) ?_
        refine wa_top (fun v21 hv21 => ?_)
        have tv21 := i_divT hv21
        clear hv21
        refine wa_iload_n (i := 2) rfl rfl ?_
        refine wa_irem (by ((try simp only [vp_in_iff, Int32.lt_iff_toInt_lt, Int32.le_iff_toInt_le, ← Int32.toInt_inj, Int32.reduceToInt, n_1, n_2, n_8, Int32.toNatClampNeg, Int64.lt_iff_toInt_lt, Int64.le_iff_toInt_le, ← Int64.toInt_inj, Int64.reduceToInt, Int32.toInt_toInt64, lg_cmp_ge, lg_cmp_le, lg_cmp_gt, lg_cmp_lt, lg_cmp_eq, Bool.false_eq_true, Bool.true_eq_false, reduceCtorEq, false_iff, true_iff, iff_true, iff_false, and_true, true_and, and_false, false_and, reduceIte, ite_true, ite_false, eq_self] at *)) <;> omega) ?_
        refine wa_top (fun v22 hv22 => ?_)
        have tv22 := i_remT hv22
        clear hv22
        refine wa_ior ?_
        refine wa_top (fun v23 hv23 => ?_)
        clear hv23
        refine wa_ireturn rfl rfl ?_
        exact ⟨_, rfl, rfl, trivial⟩
      · refine wa_iload_n (i := 3) rfl rfl ?_
        refine wa_goto o_X6_halved_41 (by decide) ?_
        refine wa_istoreD (lv' := [(4, .int v5), (3, .int v5), (2, .int v3), (0, .int a0), (1, .int a1)]) (by decide) rfl ?_
        refine wa_iload_n (i := 2) rfl rfl ?_
        refine wa_iconst (v := 4) (by decide) ?_
        refine wa_ishl ?_
        refine wa_top (fun v24 hv24 => ?_)
        clear hv24
        refine wa_iload rfl ?_
        refine wa_iconst (v := 2) (by decide) ?_
        refine wa_idiv (by ((try simp only [vp_in_iff, Int32.lt_iff_toInt_lt, Int32.le_iff_toInt_le, ← Int32.toInt_inj, Int32.reduceToInt, n_1, n_2, n_8, Int32.toNatClampNeg, Int64.lt_iff_toInt_lt, Int64.le_iff_toInt_le, ← Int64.toInt_inj, Int64.reduceToInt, Int32.toInt_toInt64, lg_cmp_ge, lg_cmp_le, lg_cmp_gt, lg_cmp_lt, lg_cmp_eq, Bool.false_eq_true, Bool.true_eq_false, reduceCtorEq, false_iff, true_iff, iff_true, iff_false, and_true, true_and, and_false, false_and, reduceIte, ite_true, ite_false, eq_self] at *)) <;> omega) ?_
        refine wa_top (fun v25 hv25 => ?_)
        have tv25 := i_divT hv25
        clear hv25
        refine wa_iload_n (i := 2) rfl rfl ?_
        refine wa_irem (by ((try simp only [vp_in_iff, Int32.lt_iff_toInt_lt, Int32.le_iff_toInt_le, ← Int32.toInt_inj, Int32.reduceToInt, n_1, n_2, n_8, Int32.toNatClampNeg, Int64.lt_iff_toInt_lt, Int64.le_iff_toInt_le, ← Int64.toInt_inj, Int64.reduceToInt, Int32.toInt_toInt64, lg_cmp_ge, lg_cmp_le, lg_cmp_gt, lg_cmp_lt, lg_cmp_eq, Bool.false_eq_true, Bool.true_eq_false, reduceCtorEq, false_iff, true_iff, iff_true, iff_false, and_true, true_and, and_false, false_and, reduceIte, ite_true, ite_false, eq_self] at *)) <;> omega) ?_
        refine wa_top (fun v26 hv26 => ?_)
        have tv26 := i_remT hv26
        clear hv26
        refine wa_ior ?_
        refine wa_top (fun v27 hv27 => ?_)
        clear hv27
        refine wa_ireturn rfl rfl ?_
        exact ⟨_, rfl, rfl, trivial⟩
  · refine wa_iload_n (i := 0) rfl rfl ?_
    refine wa_ireturn rfl rfl ?_
    exact ⟨_, rfl, rfl, trivial⟩
set_option maxHeartbeats 4000000 in
theorem sp_X6_halve (G : kG9) {d : Nat} (hd : 1 ≤ d) (σ : St) (a0 : Int32) (a1 : Int32) (p1 : 0 ≤ a0.toInt ∧ a0.toInt < 3000) (p2 : 0 ≤ a1.toInt ∧ a1.toInt < 16) : Ct G M_X6_halve d [.ref 31, .int a0, .int a1] σ (fun r σ' => Sm 36 37 σ σ' ∧ True) := by
  refine wa_start (by decide) rfl (Nat.le_of_ble_eq_true rfl) (lv := [(0, .ref 31), (1, .int a0), (2, .int a1)]) rfl o_X6_halve_0 rfl ?_
  have ua0 := Int32.toInt_lt a0
  have wa0 := Int32.le_toInt a0
  have ua1 := Int32.toInt_lt a1
  have wa1 := Int32.le_toInt a1
  refine wa_iload_n (i := 1) rfl rfl ?_
  refine wa_bipush (v := 32) (by decide) ?_
  refine wa_imul ?_
  refine wa_top (fun v1 hv1 => ?_)
  have tv1 := i_mulT hv1
  clear hv1
  refine wa_istore_nD (lv' := [(3, .int v1), (0, .ref 31), (1, .int a0), (2, .int a1)]) (i := 3) rfl (by decide) rfl ?_
  refine wa_iload_n (i := 2) rfl rfl ?_
  refine wa_bipush (v := 32) (by decide) ?_
  refine wa_imul ?_
  refine wa_top (fun v2 hv2 => ?_)
  have tv2 := i_mulT hv2
  clear hv2
  refine wa_istoreD (lv' := [(4, .int v2), (3, .int v1), (0, .ref 31), (1, .int a0), (2, .int a1)]) (by decide) rfl ?_
  refine wa_iconst (v := 0) (by decide) ?_
  refine wa_istoreD (lv' := [(5, .int 0), (4, .int v2), (3, .int v1), (0, .ref 31), (1, .int a0), (2, .int a1)]) (by decide) rfl ?_
  refine wa_pick [3, 2, 1, 0] rfl ?_
  have hi5 : ∀ (n9_14 : Nat) (l5 : Int32) (s3 : St), ((Sm 36 37 σ s3) ∧ (gi s3 31 10 = gi σ 31 10) ∧ (0 ≤ l5.toInt) ∧ (True)) → (2147483647 - l5.toInt).toNat = n9_14 → WA G M_X6_halve (ZM G M_X6_halve d (fun r σ' => Sm 36 37 σ σ' ∧ True)) B_X6_halve_14 [(0, .ref 31), (3, .int v1), (4, .int v2), (5, .int l5)] [] s3 := by
    intro n9_14
    induction n9_14 using Nat.strongRecOn with
    | _ n9_14 ih4 =>
      intro l5 s3 i9 m9_14
      obtain ⟨Fs3, khi5_0, jhi5_0, -⟩ := i9
      have ul5 := Int32.toInt_lt l5
      have wl5 := Int32.le_toInt l5
      refine wa_iload rfl ?_
      refine wa_aload_n (i := 0) rfl rfl ?_
      refine wa_geti ck_6 fl_6_76 ly_31 ?_
      refine wa_rw (khi5_0) ?_
      refine wa_icmp_ge o_X6_halve_97 (by decide) (fun h6 => ?_) (fun h6 => ?_)
      · refine wa_return (st := []) rfl rfl ?_
        exact ⟨Fs3, trivial⟩
      · have mh6 := nle_mx h6
        refine wa_iload rfl ?_
        refine wa_bipush (v := 32) (by decide) ?_
        refine wa_icmp_ge o_X6_halve_97 (by decide) (fun h7 => ?_) (fun h7 => ?_)
        · refine wa_return (st := []) rfl rfl ?_
          exact ⟨Fs3, trivial⟩
        · have mh7 := nle_mx h7
          refine wa_aload_n (i := 0) rfl rfl ?_
          refine wa_getr ck_6 fl_6_31 ly_31 rf_31_6 ?_
          refine wa_iload_n (i := 3) rfl rfl ?_
          refine wa_iload rfl ?_
          refine wa_iadd ?_
          refine wa_top (fun v8 hv8 => ?_)
          have tv8 := i_addT hv8
          clear hv8
          refine wa_iald ly_37 (by ((try simp only [vp_in_iff, Int32.lt_iff_toInt_lt, Int32.le_iff_toInt_le, ← Int32.toInt_inj, Int32.reduceToInt, n_1, n_2, n_8, Int32.toNatClampNeg, Int64.lt_iff_toInt_lt, Int64.le_iff_toInt_le, ← Int64.toInt_inj, Int64.reduceToInt, Int32.toInt_toInt64, lg_cmp_ge, lg_cmp_le, lg_cmp_gt, lg_cmp_lt, lg_cmp_eq, Bool.false_eq_true, Bool.true_eq_false, reduceCtorEq, false_iff, true_iff, iff_true, iff_false, and_true, true_and, and_false, false_and, reduceIte, ite_true, ite_false, eq_self] at *)) <;> omega) ?_
          refine wa_istoreD (lv' := [(6, .int (gi s3 37 (v8).toNatClampNeg)), (0, .ref 31), (3, .int v1), (4, .int v2), (5, .int l5)]) (by decide) rfl ?_
          refine wa_aload_n (i := 0) rfl rfl ?_
          refine wa_getr ck_6 fl_6_27 ly_31 rf_31_5 ?_
          refine wa_iload rfl ?_
          refine wa_aload_n (i := 0) rfl rfl ?_
          refine wa_getr ck_6 fl_6_20 ly_31 rf_31_3 ?_
          refine wa_iload rfl ?_
          refine wa_zald ly_34 (by ((try simp only [vp_in_iff, Int32.lt_iff_toInt_lt, Int32.le_iff_toInt_le, ← Int32.toInt_inj, Int32.reduceToInt, n_1, n_2, n_8, Int32.toNatClampNeg, Int64.lt_iff_toInt_lt, Int64.le_iff_toInt_le, ← Int64.toInt_inj, Int64.reduceToInt, Int32.toInt_toInt64, lg_cmp_ge, lg_cmp_le, lg_cmp_gt, lg_cmp_lt, lg_cmp_eq, Bool.false_eq_true, Bool.true_eq_false, reduceCtorEq, false_iff, true_iff, iff_true, iff_false, and_true, true_and, and_false, false_and, reduceIte, ite_true, ite_false, eq_self] at *)) <;> omega) ?_
          refine wa_if_eq o_X6_halve_75 (by decide) (fun h9 => ?_) (fun h9 => ?_)
          · replace h9 := bI_f (b := (gb s3 34 (l5).toNatClampNeg)) (rfl) h9
            refine wa_iload rfl ?_
            refine wa_aload_n (i := 0) rfl rfl ?_
            refine wa_getr ck_6 fl_6_24 ly_31 rf_31_4 ?_
            refine wa_iload rfl ?_
            refine wa_iload rfl ?_
            refine wa_iadd ?_
            refine wa_top (fun v10 hv10 => ?_)
            have tv10 := i_addT hv10
            clear hv10
            refine wa_iald ly_35 (by ((try simp only [vp_in_iff, Int32.lt_iff_toInt_lt, Int32.le_iff_toInt_le, ← Int32.toInt_inj, Int32.reduceToInt, n_1, n_2, n_8, Int32.toNatClampNeg, Int64.lt_iff_toInt_lt, Int64.le_iff_toInt_le, ← Int64.toInt_inj, Int64.reduceToInt, Int32.toInt_toInt64, lg_cmp_ge, lg_cmp_le, lg_cmp_gt, lg_cmp_lt, lg_cmp_eq, Bool.false_eq_true, Bool.true_eq_false, reduceCtorEq, false_iff, true_iff, iff_true, iff_false, and_true, true_and, and_false, false_and, reduceIte, ite_true, ite_false, eq_self] at *)) <;> omega) ?_
            refine wa_Si (d9 := d - 1) [.int _, .int _] [.int l5, .ref 36] (sp_X6_halved G (d := d - 1) (by omega) s3 _ _) (rfl) rfl rfl (zr (by omega)) mk_X6_halved ml_6_113 (Nat.le_of_ble_eq_true rfl) (fun x12 s11 hs11 => ?_)
            obtain ⟨zs11, -⟩ := pI hs11
            subst zs11
            refine wa_iast ly_36 (by ((try simp only [vp_in_iff, Int32.lt_iff_toInt_lt, Int32.le_iff_toInt_le, ← Int32.toInt_inj, Int32.reduceToInt, n_1, n_2, n_8, Int32.toNatClampNeg, Int64.lt_iff_toInt_lt, Int64.le_iff_toInt_le, ← Int64.toInt_inj, Int64.reduceToInt, Int32.toInt_toInt64, lg_cmp_ge, lg_cmp_le, lg_cmp_gt, lg_cmp_lt, lg_cmp_eq, Bool.false_eq_true, Bool.true_eq_false, reduceCtorEq, false_iff, true_iff, iff_true, iff_false, and_true, true_and, and_false, false_and, reduceIte, ite_true, ite_false, eq_self] at *)) <;> omega) (fun s13 hs13 => ?_)
            have Fs13 : Sm 36 37 σ s13 := by rw [hs13]; exact Sm.si Fs3 _ _ (by decide) (by decide)
            refine wa_iinc (v := (1)) (lv' := fun y14 => [(5, .int y14), (6, .int (gi s3 37 (v8).toNatClampNeg)), (0, .ref 31), (3, .int v1), (4, .int v2)]) (by decide) rfl (by decide) (fun _ => rfl) (fun y14 hy14 => ?_)
            have ty14 := i_addT hy14.symm
            clear hy14
            refine wa_goto o_X6_halve_14 (by decide) ?_
            refine wa_pick [2, 3, 4, 0] rfl ?_
            exact ih4 _ (by ((try simp only [vp_in_iff, Int32.lt_iff_toInt_lt, Int32.le_iff_toInt_le, ← Int32.toInt_inj, Int32.reduceToInt, n_1, n_2, n_8, Int32.toNatClampNeg, Int64.lt_iff_toInt_lt, Int64.le_iff_toInt_le, ← Int64.toInt_inj, Int64.reduceToInt, Int32.toInt_toInt64, lg_cmp_ge, lg_cmp_le, lg_cmp_gt, lg_cmp_lt, lg_cmp_eq, Bool.false_eq_true, Bool.true_eq_false, reduceCtorEq, false_iff, true_iff, iff_true, iff_false, and_true, true_and, and_false, false_and, reduceIte, ite_true, ite_false, eq_self] at *)) <;> omega) _ _ ⟨Fs13, ((nxq_gi_si hs13 (by decide)).trans (khi5_0)), (by ((try simp only [vp_in_iff, Int32.lt_iff_toInt_lt, Int32.le_iff_toInt_le, ← Int32.toInt_inj, Int32.reduceToInt, n_1, n_2, n_8, Int32.toNatClampNeg, Int64.lt_iff_toInt_lt, Int64.le_iff_toInt_le, ← Int64.toInt_inj, Int64.reduceToInt, Int32.toInt_toInt64, lg_cmp_ge, lg_cmp_le, lg_cmp_gt, lg_cmp_lt, lg_cmp_eq, Bool.false_eq_true, Bool.true_eq_false, reduceCtorEq, false_iff, true_iff, iff_true, iff_false, and_true, true_and, and_false, false_and, reduceIte, ite_true, ite_false, eq_self] at *)) <;> omega), trivial⟩ rfl
          · replace h9 := bI_t (b := (gb s3 34 (l5).toNatClampNeg)) (rfl) h9
            refine wa_iload rfl ?_
            refine wa_aload_n (i := 0) rfl rfl ?_
            refine wa_getr ck_6 fl_6_24 ly_31 rf_31_4 ?_
            refine wa_iload rfl ?_
            refine wa_iload rfl ?_
            refine wa_iadd ?_
            refine wa_top (fun v15 hv15 => ?_)
            have tv15 := i_addT hv15
            clear hv15
            refine wa_iald ly_35 (by ((try simp only [vp_in_iff, Int32.lt_iff_toInt_lt, Int32.le_iff_toInt_le, ← Int32.toInt_inj, Int32.reduceToInt, n_1, n_2, n_8, Int32.toNatClampNeg, Int64.lt_iff_toInt_lt, Int64.le_iff_toInt_le, ← Int64.toInt_inj, Int64.reduceToInt, Int32.toInt_toInt64, lg_cmp_ge, lg_cmp_le, lg_cmp_gt, lg_cmp_lt, lg_cmp_eq, Bool.false_eq_true, Bool.true_eq_false, reduceCtorEq, false_iff, true_iff, iff_true, iff_false, and_true, true_and, and_false, false_and, reduceIte, ite_true, ite_false, eq_self] at *)) <;> omega) ?_
            refine wa_isub ?_
            refine wa_top (fun v16 hv16 => ?_)
            have tv16 := i_subT hv16
            clear hv16
            refine wa_iconst (v := 1) (by decide) ?_
            refine wa_ishr ?_
            refine wa_top (fun v17 hv17 => ?_)
            clear hv17
            refine wa_goto o_X6_halve_90 (by decide) ?_
            refine wa_iast ly_36 (by ((try simp only [vp_in_iff, Int32.lt_iff_toInt_lt, Int32.le_iff_toInt_le, ← Int32.toInt_inj, Int32.reduceToInt, n_1, n_2, n_8, Int32.toNatClampNeg, Int64.lt_iff_toInt_lt, Int64.le_iff_toInt_le, ← Int64.toInt_inj, Int64.reduceToInt, Int32.toInt_toInt64, lg_cmp_ge, lg_cmp_le, lg_cmp_gt, lg_cmp_lt, lg_cmp_eq, Bool.false_eq_true, Bool.true_eq_false, reduceCtorEq, false_iff, true_iff, iff_true, iff_false, and_true, true_and, and_false, false_and, reduceIte, ite_true, ite_false, eq_self] at *)) <;> omega) (fun s18 hs18 => ?_)
            have Fs18 : Sm 36 37 σ s18 := by rw [hs18]; exact Sm.si Fs3 _ _ (by decide) (by decide)
            refine wa_iinc (v := (1)) (lv' := fun y19 => [(5, .int y19), (6, .int (gi s3 37 (v8).toNatClampNeg)), (0, .ref 31), (3, .int v1), (4, .int v2)]) (by decide) rfl (by decide) (fun _ => rfl) (fun y19 hy19 => ?_)
            have ty19 := i_addT hy19.symm
            clear hy19
            refine wa_goto o_X6_halve_14 (by decide) ?_
            refine wa_pick [2, 3, 4, 0] rfl ?_
            exact ih4 _ (by ((try simp only [vp_in_iff, Int32.lt_iff_toInt_lt, Int32.le_iff_toInt_le, ← Int32.toInt_inj, Int32.reduceToInt, n_1, n_2, n_8, Int32.toNatClampNeg, Int64.lt_iff_toInt_lt, Int64.le_iff_toInt_le, ← Int64.toInt_inj, Int64.reduceToInt, Int32.toInt_toInt64, lg_cmp_ge, lg_cmp_le, lg_cmp_gt, lg_cmp_lt, lg_cmp_eq, Bool.false_eq_true, Bool.true_eq_false, reduceCtorEq, false_iff, true_iff, iff_true, iff_false, and_true, true_and, and_false, false_and, reduceIte, ite_true, ite_false, eq_self] at *)) <;> omega) _ _ ⟨Fs18, ((nxq_gi_si hs18 (by decide)).trans (khi5_0)), (by ((try simp only [vp_in_iff, Int32.lt_iff_toInt_lt, Int32.le_iff_toInt_le, ← Int32.toInt_inj, Int32.reduceToInt, n_1, n_2, n_8, Int32.toNatClampNeg, Int64.lt_iff_toInt_lt, Int64.le_iff_toInt_le, ← Int64.toInt_inj, Int64.reduceToInt, Int32.toInt_toInt64, lg_cmp_ge, lg_cmp_le, lg_cmp_gt, lg_cmp_lt, lg_cmp_eq, Bool.false_eq_true, Bool.true_eq_false, reduceCtorEq, false_iff, true_iff, iff_true, iff_false, and_true, true_and, and_false, false_and, reduceIte, ite_true, ite_false, eq_self] at *)) <;> omega), trivial⟩ rfl
  exact hi5 _ _ _ ⟨(Sm.rf 36 37 σ), (rfl), (by ((try simp only [vp_in_iff, Int32.lt_iff_toInt_lt, Int32.le_iff_toInt_le, ← Int32.toInt_inj, Int32.reduceToInt, n_1, n_2, n_8, Int32.toNatClampNeg, Int64.lt_iff_toInt_lt, Int64.le_iff_toInt_le, ← Int64.toInt_inj, Int64.reduceToInt, Int32.toInt_toInt64, lg_cmp_ge, lg_cmp_le, lg_cmp_gt, lg_cmp_lt, lg_cmp_eq, Bool.false_eq_true, Bool.true_eq_false, reduceCtorEq, false_iff, true_iff, iff_true, iff_false, and_true, true_and, and_false, false_and, reduceIte, ite_true, ite_false, eq_self] at *)) <;> omega), trivial⟩ rfl
set_option maxHeartbeats 4000000 in
theorem sp_X6_explore (G : kG9) {d : Nat} (hd : 3 ≤ d) (σ : St) (a0 : Int32) (r1 : 0 ≤ (gi σ 31 13).toInt ∧ (gi σ 31 13).toInt ≤ 3000) : Ct G M_X6_explore d [.ref 31, .int a0] σ (fun r σ' => ∃ x : Bool, r = some (.int (bI x)) ∧ Sm 31 41 σ σ' ∧ (0 ≤ (gi σ' 31 13).toInt ∧ (gi σ' 31 13).toInt ≤ 3000) ∧ True) := by
  refine wa_start (by decide) rfl (Nat.le_of_ble_eq_true rfl) (lv := [(0, .ref 31), (1, .int a0)]) rfl o_X6_explore_0 rfl ?_
  have ua0 := Int32.toInt_lt a0
  have wa0 := Int32.le_toInt a0
  refine wa_aload_n (i := 0) rfl rfl ?_
  refine wa_iload_n (i := 1) rfl rfl ?_
  refine wa_Vi (d9 := d - 1) [.int _] [] (sp_X6_gather G (d := d - 1) (by omega) σ _ (by first | assumption | exact Or.inl rfl | exact Or.inr rfl | (((try simp only [vp_in_iff, Int32.lt_iff_toInt_lt, Int32.le_iff_toInt_le, ← Int32.toInt_inj, Int32.reduceToInt, n_1, n_2, n_8, Int32.toNatClampNeg, Int64.lt_iff_toInt_lt, Int64.le_iff_toInt_le, ← Int64.toInt_inj, Int64.reduceToInt, Int32.toInt_toInt64, lg_cmp_ge, lg_cmp_le, lg_cmp_gt, lg_cmp_lt, lg_cmp_eq, Bool.false_eq_true, Bool.true_eq_false, reduceCtorEq, false_iff, true_iff, iff_true, iff_false, and_true, true_and, and_false, false_and, reduceIte, ite_true, ite_false, eq_self] at *)) <;> omega))) (rfl) rfl rfl (zr (by omega)) mk_X6_gather ly_31 ml_6_67 (Nat.le_of_ble_eq_true rfl) (fun x2 s1 hs1 => ?_)
  obtain ⟨bx2, ex2, fs1, cx2_1, -⟩ := pB hs1
  subst ex2
  have Fs1 := Sm.tr (Sm.rf 31 41 σ) (Sm.wd fs1 (lo' := 31) (hi' := 41) (by decide) (by decide))
  refine wa_if_ne o_X6_explore_10 (by decide) (fun h3 => ?_) (fun h3 => ?_)
  · replace h3 := bI_t (b := bx2) (rfl) h3
    refine wa_aload_n (i := 0) rfl rfl ?_
    refine wa_getr ck_6 fl_6_41 ly_31 rf_31_9 ?_
    refine wa_iconst (v := 0) (by decide) ?_
    refine wa_Sv (d9 := d - 1) [.ref 40, .int _] [] (sp_J7_fill_53178_at_40 G (d := d - 1) (by omega) s1 _) (rfl) rfl rfl (zr (by omega)) mk_J7_fill_53178 ml_6_70 (Nat.le_of_ble_eq_true rfl) (fun s4 hs4 => ?_)
    obtain ⟨fs4, -⟩ := hs4
    have Fs4 := Sm.tr Fs1 (Sm.wd fs4 (lo' := 31) (hi' := 41) (by decide) (by decide))
    refine wa_aload_n (i := 0) rfl rfl ?_
    refine wa_iconst (v := 0) (by decide) ?_
    refine wa_puti ck_6 fl_6_52 ly_31 (fun s6 hs6 => ?_)
    have Fs6 : Sm 31 41 σ s6 := by rw [hs6]; exact Sm.si Fs4 _ _ (by decide) (by decide)
    refine wa_iconst (v := 0) (by decide) ?_
    refine wa_istore_nD (lv' := [(2, .int 0), (0, .ref 31), (1, .int a0)]) (i := 2) rfl (by decide) rfl ?_
    refine wa_pick [1, 0] rfl ?_
    have hi9 : ∀ (n9_25 : Nat) (l2 : Int32) (s7 : St), ((Sm 31 41 σ s7) ∧ (gi s7 31 13 = (0 : Int32)) ∧ (gi s7 31 10 = gi s1 31 10) ∧ (gi s7 31 12 = gi s1 31 12) ∧ (0 ≤ l2.toInt) ∧ (True)) → (2147483647 - l2.toInt).toNat = n9_25 → WA G M_X6_explore (ZM G M_X6_explore d (fun r σ' => ∃ x : Bool, r = some (.int (bI x)) ∧ Sm 31 41 σ σ' ∧ (0 ≤ (gi σ' 31 13).toInt ∧ (gi σ' 31 13).toInt ≤ 3000) ∧ True)) B_X6_explore_25 [(0, .ref 31), (2, .int l2)] [] s7 := by
      intro n9_25
      induction n9_25 using Nat.strongRecOn with
      | _ n9_25 ih8 =>
        intro l2 s7 i9 m9_25
        obtain ⟨Fs7, khi9_0, khi9_1, khi9_2, jhi9_0, -⟩ := i9
        have ul2 := Int32.toInt_lt l2
        have wl2 := Int32.le_toInt l2
        refine wa_iload_n (i := 2) rfl rfl ?_
        refine wa_aload_n (i := 0) rfl rfl ?_
        refine wa_geti ck_6 fl_6_76 ly_31 ?_
        refine wa_rw (khi9_1) ?_
        refine wa_icmp_ge o_X6_explore_102 (by decide) (fun h10 => ?_) (fun h10 => ?_)
        · refine wa_aload_n (i := 0) rfl rfl ?_
          refine wa_Vi (d9 := d - 1) [] [] (sp_X6_locate G (d := d - 1) (by omega) s7  (by rw [khi9_0]; first | assumption | exact Or.inl rfl | exact Or.inr rfl | (((try simp only [vp_in_iff, Int32.lt_iff_toInt_lt, Int32.le_iff_toInt_le, ← Int32.toInt_inj, Int32.reduceToInt, n_1, n_2, n_8, Int32.toNatClampNeg, Int64.lt_iff_toInt_lt, Int64.le_iff_toInt_le, ← Int64.toInt_inj, Int64.reduceToInt, Int32.toInt_toInt64, lg_cmp_ge, lg_cmp_le, lg_cmp_gt, lg_cmp_lt, lg_cmp_eq, Bool.false_eq_true, Bool.true_eq_false, reduceCtorEq, false_iff, true_iff, iff_true, iff_false, and_true, true_and, and_false, false_and, reduceIte, ite_true, ite_false, eq_self] at *)) <;> omega))) (rfl) rfl rfl (zr (by omega)) mk_X6_locate ly_31 ml_6_82 (Nat.le_of_ble_eq_true rfl) (fun x12 s11 hs11 => ?_)
          obtain ⟨fs11, cx12_1, -⟩ := pI hs11
          have Fs11 := Sm.tr Fs7 (Sm.wd fs11 (lo' := 31) (hi' := 41) (by decide) (by decide))
          refine wa_pop rfl ?_
          refine wa_iconst (v := 0) (by decide) ?_
          refine wa_istore_nD (lv' := [(2, .int 0), (0, .ref 31)]) (i := 2) rfl (by decide) rfl ?_
          refine wa_pick [1, 0] rfl ?_
          have hi15 : ∀ (n9_109 : Nat) (l2 : Int32) (s13 : St), ((Sm 31 41 σ s13) ∧ (0 ≤ l2.toInt) ∧ (0 ≤ (gi s13 31 13).toInt ∧ (gi s13 31 13).toInt ≤ 3000) ∧ (True)) → (2147483647 - l2.toInt).toNat = n9_109 → WA G M_X6_explore (ZM G M_X6_explore d (fun r σ' => ∃ x : Bool, r = some (.int (bI x)) ∧ Sm 31 41 σ σ' ∧ (0 ≤ (gi σ' 31 13).toInt ∧ (gi σ' 31 13).toInt ≤ 3000) ∧ True)) B_X6_explore_109 [(0, .ref 31), (2, .int l2)] [] s13 := by
            intro n9_109
            induction n9_109 using Nat.strongRecOn with
            | _ n9_109 ih14 =>
              intro l2 s13 i9 m9_109
              obtain ⟨Fs13, jhi15_0, jhi15_1, -⟩ := i9
              have ul2 := Int32.toInt_lt l2
              have wl2 := Int32.le_toInt l2
              refine wa_iload_n (i := 2) rfl rfl ?_
              refine wa_aload_n (i := 0) rfl rfl ?_
              refine wa_geti ck_6 fl_6_52 ly_31 ?_
              refine wa_icmp_ge o_X6_explore_185 (by decide) (fun h16 => ?_) (fun h16 => ?_)
              · refine wa_iconst (v := 1) (by decide) ?_
                refine wa_zreturn true (rfl) rfl rfl ?_
                exact ⟨_, rfl, Fs13, (by first | assumption | (((try simp only [vp_in_iff, Int32.lt_iff_toInt_lt, Int32.le_iff_toInt_le, ← Int32.toInt_inj, Int32.reduceToInt, n_1, n_2, n_8, Int32.toNatClampNeg, Int64.lt_iff_toInt_lt, Int64.le_iff_toInt_le, ← Int64.toInt_inj, Int64.reduceToInt, Int32.toInt_toInt64, lg_cmp_ge, lg_cmp_le, lg_cmp_gt, lg_cmp_lt, lg_cmp_eq, Bool.false_eq_true, Bool.true_eq_false, reduceCtorEq, false_iff, true_iff, iff_true, iff_false, and_true, true_and, and_false, false_and, reduceIte, ite_true, ite_false, eq_self] at *)) <;> omega)), trivial⟩
              · have mh16 := nle_mx h16
                refine wa_iload_n (i := 2) rfl rfl ?_
                refine wa_sipush (v := 3000) (by decide) ?_
                refine wa_icmp_ge o_X6_explore_185 (by decide) (fun h17 => ?_) (fun h17 => ?_)
                · refine wa_iconst (v := 1) (by decide) ?_
                  refine wa_zreturn true (rfl) rfl rfl ?_
                  exact ⟨_, rfl, Fs13, (by first | assumption | (((try simp only [vp_in_iff, Int32.lt_iff_toInt_lt, Int32.le_iff_toInt_le, ← Int32.toInt_inj, Int32.reduceToInt, n_1, n_2, n_8, Int32.toNatClampNeg, Int64.lt_iff_toInt_lt, Int64.le_iff_toInt_le, ← Int64.toInt_inj, Int64.reduceToInt, Int32.toInt_toInt64, lg_cmp_ge, lg_cmp_le, lg_cmp_gt, lg_cmp_lt, lg_cmp_eq, Bool.false_eq_true, Bool.true_eq_false, reduceCtorEq, false_iff, true_iff, iff_true, iff_false, and_true, true_and, and_false, false_and, reduceIte, ite_true, ite_false, eq_self] at *)) <;> omega)), trivial⟩
                · have mh17 := nle_mx h17
                  refine wa_iconst (v := 0) (by decide) ?_
                  refine wa_istore_nD (lv' := [(3, .int 0), (0, .ref 31), (2, .int l2)]) (i := 3) rfl (by decide) rfl ?_
                  refine wa_pick [1, 2, 0] rfl ?_
                  have hi20 : ∀ (n9_126 : Nat) (l3 : Int32) (s18 : St), ((Sm 31 41 σ s18) ∧ (0 ≤ l3.toInt) ∧ (0 ≤ (gi s18 31 13).toInt ∧ (gi s18 31 13).toInt ≤ 3000) ∧ (True)) → (2147483647 - l3.toInt).toNat = n9_126 → WA G M_X6_explore (ZM G M_X6_explore d (fun r σ' => ∃ x : Bool, r = some (.int (bI x)) ∧ Sm 31 41 σ σ' ∧ (0 ≤ (gi σ' 31 13).toInt ∧ (gi σ' 31 13).toInt ≤ 3000) ∧ True)) B_X6_explore_126 [(0, .ref 31), (2, .int l2), (3, .int l3)] [] s18 := by
                    intro n9_126
                    induction n9_126 using Nat.strongRecOn with
                    | _ n9_126 ih19 =>
                      intro l3 s18 i9 m9_126
                      obtain ⟨Fs18, jhi20_0, jhi20_1, -⟩ := i9
                      have ul3 := Int32.toInt_lt l3
                      have wl3 := Int32.le_toInt l3
                      refine wa_iload_n (i := 3) rfl rfl ?_
                      refine wa_aload_n (i := 0) rfl rfl ?_
                      refine wa_geti ck_6 fl_6_56 ly_31 ?_
                      refine wa_icmp_ge o_X6_explore_179 (by decide) (fun h21 => ?_) (fun h21 => ?_)
                      · refine wa_iinc (v := (1)) (lv' := fun y22 => [(2, .int y22), (0, .ref 31), (3, .int l3)]) (by decide) rfl (by decide) (fun _ => rfl) (fun y22 hy22 => ?_)
                        have ty22 := i_addT hy22.symm
                        clear hy22
                        refine wa_goto o_X6_explore_109 (by decide) ?_
                        refine wa_pick [1, 0] rfl ?_
                        exact ih14 _ (by ((try simp only [vp_in_iff, Int32.lt_iff_toInt_lt, Int32.le_iff_toInt_le, ← Int32.toInt_inj, Int32.reduceToInt, n_1, n_2, n_8, Int32.toNatClampNeg, Int64.lt_iff_toInt_lt, Int64.le_iff_toInt_le, ← Int64.toInt_inj, Int64.reduceToInt, Int32.toInt_toInt64, lg_cmp_ge, lg_cmp_le, lg_cmp_gt, lg_cmp_lt, lg_cmp_eq, Bool.false_eq_true, Bool.true_eq_false, reduceCtorEq, false_iff, true_iff, iff_true, iff_false, and_true, true_and, and_false, false_and, reduceIte, ite_true, ite_false, eq_self] at *)) <;> omega) _ _ ⟨Fs18, (by ((try simp only [vp_in_iff, Int32.lt_iff_toInt_lt, Int32.le_iff_toInt_le, ← Int32.toInt_inj, Int32.reduceToInt, n_1, n_2, n_8, Int32.toNatClampNeg, Int64.lt_iff_toInt_lt, Int64.le_iff_toInt_le, ← Int64.toInt_inj, Int64.reduceToInt, Int32.toInt_toInt64, lg_cmp_ge, lg_cmp_le, lg_cmp_gt, lg_cmp_lt, lg_cmp_eq, Bool.false_eq_true, Bool.true_eq_false, reduceCtorEq, false_iff, true_iff, iff_true, iff_false, and_true, true_and, and_false, false_and, reduceIte, ite_true, ite_false, eq_self] at *)) <;> omega), (by first | assumption | (((try simp only [vp_in_iff, Int32.lt_iff_toInt_lt, Int32.le_iff_toInt_le, ← Int32.toInt_inj, Int32.reduceToInt, n_1, n_2, n_8, Int32.toNatClampNeg, Int64.lt_iff_toInt_lt, Int64.le_iff_toInt_le, ← Int64.toInt_inj, Int64.reduceToInt, Int32.toInt_toInt64, lg_cmp_ge, lg_cmp_le, lg_cmp_gt, lg_cmp_lt, lg_cmp_eq, Bool.false_eq_true, Bool.true_eq_false, reduceCtorEq, false_iff, true_iff, iff_true, iff_false, and_true, true_and, and_false, false_and, reduceIte, ite_true, ite_false, eq_self] at *)) <;> omega)), trivial⟩ rfl
                      · have mh21 := nle_mx h21
                        refine wa_iload_n (i := 3) rfl rfl ?_
                        refine wa_bipush (v := 16) (by decide) ?_
                        refine wa_icmp_ge o_X6_explore_179 (by decide) (fun h23 => ?_) (fun h23 => ?_)
                        · refine wa_iinc (v := (1)) (lv' := fun y24 => [(2, .int y24), (0, .ref 31), (3, .int l3)]) (by decide) rfl (by decide) (fun _ => rfl) (fun y24 hy24 => ?_)
                          have ty24 := i_addT hy24.symm
                          clear hy24
                          refine wa_goto o_X6_explore_109 (by decide) ?_
                          refine wa_pick [1, 0] rfl ?_
                          exact ih14 _ (by ((try simp only [vp_in_iff, Int32.lt_iff_toInt_lt, Int32.le_iff_toInt_le, ← Int32.toInt_inj, Int32.reduceToInt, n_1, n_2, n_8, Int32.toNatClampNeg, Int64.lt_iff_toInt_lt, Int64.le_iff_toInt_le, ← Int64.toInt_inj, Int64.reduceToInt, Int32.toInt_toInt64, lg_cmp_ge, lg_cmp_le, lg_cmp_gt, lg_cmp_lt, lg_cmp_eq, Bool.false_eq_true, Bool.true_eq_false, reduceCtorEq, false_iff, true_iff, iff_true, iff_false, and_true, true_and, and_false, false_and, reduceIte, ite_true, ite_false, eq_self] at *)) <;> omega) _ _ ⟨Fs18, (by ((try simp only [vp_in_iff, Int32.lt_iff_toInt_lt, Int32.le_iff_toInt_le, ← Int32.toInt_inj, Int32.reduceToInt, n_1, n_2, n_8, Int32.toNatClampNeg, Int64.lt_iff_toInt_lt, Int64.le_iff_toInt_le, ← Int64.toInt_inj, Int64.reduceToInt, Int32.toInt_toInt64, lg_cmp_ge, lg_cmp_le, lg_cmp_gt, lg_cmp_lt, lg_cmp_eq, Bool.false_eq_true, Bool.true_eq_false, reduceCtorEq, false_iff, true_iff, iff_true, iff_false, and_true, true_and, and_false, false_and, reduceIte, ite_true, ite_false, eq_self] at *)) <;> omega), (by first | assumption | (((try simp only [vp_in_iff, Int32.lt_iff_toInt_lt, Int32.le_iff_toInt_le, ← Int32.toInt_inj, Int32.reduceToInt, n_1, n_2, n_8, Int32.toNatClampNeg, Int64.lt_iff_toInt_lt, Int64.le_iff_toInt_le, ← Int64.toInt_inj, Int64.reduceToInt, Int32.toInt_toInt64, lg_cmp_ge, lg_cmp_le, lg_cmp_gt, lg_cmp_lt, lg_cmp_eq, Bool.false_eq_true, Bool.true_eq_false, reduceCtorEq, false_iff, true_iff, iff_true, iff_false, and_true, true_and, and_false, false_and, reduceIte, ite_true, ite_false, eq_self] at *)) <;> omega)), trivial⟩ rfl
                        · have mh23 := nle_mx h23
                          refine wa_aload_n (i := 0) rfl rfl ?_
                          refine wa_iload_n (i := 2) rfl rfl ?_
                          refine wa_iload_n (i := 3) rfl rfl ?_
                          refine wa_Vv (d9 := d - 1) [.int _, .int _] [] (sp_X6_halve G (d := d - 1) (by omega) s18 _ _ (by ((try simp only [vp_in_iff, Int32.lt_iff_toInt_lt, Int32.le_iff_toInt_le, ← Int32.toInt_inj, Int32.reduceToInt, n_1, n_2, n_8, Int32.toNatClampNeg, Int64.lt_iff_toInt_lt, Int64.le_iff_toInt_le, ← Int64.toInt_inj, Int64.reduceToInt, Int32.toInt_toInt64, lg_cmp_ge, lg_cmp_le, lg_cmp_gt, lg_cmp_lt, lg_cmp_eq, Bool.false_eq_true, Bool.true_eq_false, reduceCtorEq, false_iff, true_iff, iff_true, iff_false, and_true, true_and, and_false, false_and, reduceIte, ite_true, ite_false, eq_self] at *)) <;> omega) (by ((try simp only [vp_in_iff, Int32.lt_iff_toInt_lt, Int32.le_iff_toInt_le, ← Int32.toInt_inj, Int32.reduceToInt, n_1, n_2, n_8, Int32.toNatClampNeg, Int64.lt_iff_toInt_lt, Int64.le_iff_toInt_le, ← Int64.toInt_inj, Int64.reduceToInt, Int32.toInt_toInt64, lg_cmp_ge, lg_cmp_le, lg_cmp_gt, lg_cmp_lt, lg_cmp_eq, Bool.false_eq_true, Bool.true_eq_false, reduceCtorEq, false_iff, true_iff, iff_true, iff_false, and_true, true_and, and_false, false_and, reduceIte, ite_true, ite_false, eq_self] at *)) <;> omega)) (rfl) rfl rfl (zr (by omega)) mk_X6_halve ly_31 ml_6_86 (Nat.le_of_ble_eq_true rfl) (fun s25 hs25 => ?_)
                          obtain ⟨fs25, -⟩ := hs25
                          have Fs25 := Sm.tr Fs18 (Sm.wd fs25 (lo' := 31) (hi' := 41) (by decide) (by decide))
                          refine wa_aload_n (i := 0) rfl rfl ?_
                          refine wa_Vi (d9 := d - 1) [] [] (sp_X6_locate G (d := d - 1) (by omega) s25  (by rw [Sm.gi fs25 13 (Or.inl (by decide))]; first | assumption | exact Or.inl rfl | exact Or.inr rfl | (((try simp only [vp_in_iff, Int32.lt_iff_toInt_lt, Int32.le_iff_toInt_le, ← Int32.toInt_inj, Int32.reduceToInt, n_1, n_2, n_8, Int32.toNatClampNeg, Int64.lt_iff_toInt_lt, Int64.le_iff_toInt_le, ← Int64.toInt_inj, Int64.reduceToInt, Int32.toInt_toInt64, lg_cmp_ge, lg_cmp_le, lg_cmp_gt, lg_cmp_lt, lg_cmp_eq, Bool.false_eq_true, Bool.true_eq_false, reduceCtorEq, false_iff, true_iff, iff_true, iff_false, and_true, true_and, and_false, false_and, reduceIte, ite_true, ite_false, eq_self] at *)) <;> omega))) (rfl) rfl rfl (zr (by omega)) mk_X6_locate ly_31 ml_6_82 (Nat.le_of_ble_eq_true rfl) (fun x28 s27 hs27 => ?_)
                          obtain ⟨fs27, cx28_1, -⟩ := pI hs27
                          have Fs27 := Sm.tr Fs25 (Sm.wd fs27 (lo' := 31) (hi' := 41) (by decide) (by decide))
                          refine wa_istoreD (lv' := [(4, .int x28), (0, .ref 31), (2, .int l2), (3, .int l3)]) (by decide) rfl ?_
                          refine wa_iload rfl ?_
                          refine wa_iconst (v := (-1)) (by decide) ?_
                          refine wa_icmp_ne o_X6_explore_160 (by decide) (fun h29 => ?_) (fun h29 => ?_)
                          · refine wa_aload_n (i := 0) rfl rfl ?_
                            refine wa_getr ck_6 fl_6_35 ly_31 rf_31_7 ?_
                            refine wa_iload_n (i := 2) rfl rfl ?_
                            refine wa_bipush (v := 16) (by decide) ?_
                            refine wa_imul ?_
                            refine wa_top (fun v30 hv30 => ?_)
                            have tv30 := i_mulT hv30
                            clear hv30
                            refine wa_iload_n (i := 3) rfl rfl ?_
                            refine wa_iadd ?_
                            refine wa_top (fun v31 hv31 => ?_)
                            have tv31 := i_addT hv31
                            clear hv31
                            refine wa_iload rfl ?_
                            refine wa_iast ly_38 (by ((try simp only [vp_in_iff, Int32.lt_iff_toInt_lt, Int32.le_iff_toInt_le, ← Int32.toInt_inj, Int32.reduceToInt, n_1, n_2, n_8, Int32.toNatClampNeg, Int64.lt_iff_toInt_lt, Int64.le_iff_toInt_le, ← Int64.toInt_inj, Int64.reduceToInt, Int32.toInt_toInt64, lg_cmp_ge, lg_cmp_le, lg_cmp_gt, lg_cmp_lt, lg_cmp_eq, Bool.false_eq_true, Bool.true_eq_false, reduceCtorEq, false_iff, true_iff, iff_true, iff_false, and_true, true_and, and_false, false_and, reduceIte, ite_true, ite_false, eq_self] at *)) <;> omega) (fun s32 hs32 => ?_)
                            have Fs32 : Sm 31 41 σ s32 := by rw [hs32]; exact Sm.si Fs27 _ _ (by decide) (by decide)
                            refine wa_iinc (v := (1)) (lv' := fun y33 => [(3, .int y33), (4, .int x28), (0, .ref 31), (2, .int l2)]) (by decide) rfl (by decide) (fun _ => rfl) (fun y33 hy33 => ?_)
                            have ty33 := i_addT hy33.symm
                            clear hy33
                            refine wa_goto o_X6_explore_126 (by decide) ?_
                            refine wa_pick [2, 3, 0] rfl ?_
                            exact ih19 _ (by ((try simp only [vp_in_iff, Int32.lt_iff_toInt_lt, Int32.le_iff_toInt_le, ← Int32.toInt_inj, Int32.reduceToInt, n_1, n_2, n_8, Int32.toNatClampNeg, Int64.lt_iff_toInt_lt, Int64.le_iff_toInt_le, ← Int64.toInt_inj, Int64.reduceToInt, Int32.toInt_toInt64, lg_cmp_ge, lg_cmp_le, lg_cmp_gt, lg_cmp_lt, lg_cmp_eq, Bool.false_eq_true, Bool.true_eq_false, reduceCtorEq, false_iff, true_iff, iff_true, iff_false, and_true, true_and, and_false, false_and, reduceIte, ite_true, ite_false, eq_self] at *)) <;> omega) _ _ ⟨Fs32, (by ((try simp only [vp_in_iff, Int32.lt_iff_toInt_lt, Int32.le_iff_toInt_le, ← Int32.toInt_inj, Int32.reduceToInt, n_1, n_2, n_8, Int32.toNatClampNeg, Int64.lt_iff_toInt_lt, Int64.le_iff_toInt_le, ← Int64.toInt_inj, Int64.reduceToInt, Int32.toInt_toInt64, lg_cmp_ge, lg_cmp_le, lg_cmp_gt, lg_cmp_lt, lg_cmp_eq, Bool.false_eq_true, Bool.true_eq_false, reduceCtorEq, false_iff, true_iff, iff_true, iff_false, and_true, true_and, and_false, false_and, reduceIte, ite_true, ite_false, eq_self] at *)) <;> omega), (by rw [nxq_gi_si hs32 (by decide)]; first | assumption | (((try simp only [vp_in_iff, Int32.lt_iff_toInt_lt, Int32.le_iff_toInt_le, ← Int32.toInt_inj, Int32.reduceToInt, n_1, n_2, n_8, Int32.toNatClampNeg, Int64.lt_iff_toInt_lt, Int64.le_iff_toInt_le, ← Int64.toInt_inj, Int64.reduceToInt, Int32.toInt_toInt64, lg_cmp_ge, lg_cmp_le, lg_cmp_gt, lg_cmp_lt, lg_cmp_eq, Bool.false_eq_true, Bool.true_eq_false, reduceCtorEq, false_iff, true_iff, iff_true, iff_false, and_true, true_and, and_false, false_and, reduceIte, ite_true, ite_false, eq_self] at *)) <;> omega)), trivial⟩ rfl
                          · refine wa_iconst (v := 0) (by decide) ?_
                            refine wa_zreturn false (rfl) rfl rfl ?_
                            exact ⟨_, rfl, Fs27, (by first | assumption | (((try simp only [vp_in_iff, Int32.lt_iff_toInt_lt, Int32.le_iff_toInt_le, ← Int32.toInt_inj, Int32.reduceToInt, n_1, n_2, n_8, Int32.toNatClampNeg, Int64.lt_iff_toInt_lt, Int64.le_iff_toInt_le, ← Int64.toInt_inj, Int64.reduceToInt, Int32.toInt_toInt64, lg_cmp_ge, lg_cmp_le, lg_cmp_gt, lg_cmp_lt, lg_cmp_eq, Bool.false_eq_true, Bool.true_eq_false, reduceCtorEq, false_iff, true_iff, iff_true, iff_false, and_true, true_and, and_false, false_and, reduceIte, ite_true, ite_false, eq_self] at *)) <;> omega)), trivial⟩
                  exact hi20 _ _ _ ⟨Fs13, (by ((try simp only [vp_in_iff, Int32.lt_iff_toInt_lt, Int32.le_iff_toInt_le, ← Int32.toInt_inj, Int32.reduceToInt, n_1, n_2, n_8, Int32.toNatClampNeg, Int64.lt_iff_toInt_lt, Int64.le_iff_toInt_le, ← Int64.toInt_inj, Int64.reduceToInt, Int32.toInt_toInt64, lg_cmp_ge, lg_cmp_le, lg_cmp_gt, lg_cmp_lt, lg_cmp_eq, Bool.false_eq_true, Bool.true_eq_false, reduceCtorEq, false_iff, true_iff, iff_true, iff_false, and_true, true_and, and_false, false_and, reduceIte, ite_true, ite_false, eq_self] at *)) <;> omega), (by first | assumption | (((try simp only [vp_in_iff, Int32.lt_iff_toInt_lt, Int32.le_iff_toInt_le, ← Int32.toInt_inj, Int32.reduceToInt, n_1, n_2, n_8, Int32.toNatClampNeg, Int64.lt_iff_toInt_lt, Int64.le_iff_toInt_le, ← Int64.toInt_inj, Int64.reduceToInt, Int32.toInt_toInt64, lg_cmp_ge, lg_cmp_le, lg_cmp_gt, lg_cmp_lt, lg_cmp_eq, Bool.false_eq_true, Bool.true_eq_false, reduceCtorEq, false_iff, true_iff, iff_true, iff_false, and_true, true_and, and_false, false_and, reduceIte, ite_true, ite_false, eq_self] at *)) <;> omega)), trivial⟩ rfl
          exact hi15 _ _ _ ⟨Fs11, (by ((try simp only [vp_in_iff, Int32.lt_iff_toInt_lt, Int32.le_iff_toInt_le, ← Int32.toInt_inj, Int32.reduceToInt, n_1, n_2, n_8, Int32.toNatClampNeg, Int64.lt_iff_toInt_lt, Int64.le_iff_toInt_le, ← Int64.toInt_inj, Int64.reduceToInt, Int32.toInt_toInt64, lg_cmp_ge, lg_cmp_le, lg_cmp_gt, lg_cmp_lt, lg_cmp_eq, Bool.false_eq_true, Bool.true_eq_false, reduceCtorEq, false_iff, true_iff, iff_true, iff_false, and_true, true_and, and_false, false_and, reduceIte, ite_true, ite_false, eq_self] at *)) <;> omega), (by first | assumption | (((try simp only [vp_in_iff, Int32.lt_iff_toInt_lt, Int32.le_iff_toInt_le, ← Int32.toInt_inj, Int32.reduceToInt, n_1, n_2, n_8, Int32.toNatClampNeg, Int64.lt_iff_toInt_lt, Int64.le_iff_toInt_le, ← Int64.toInt_inj, Int64.reduceToInt, Int32.toInt_toInt64, lg_cmp_ge, lg_cmp_le, lg_cmp_gt, lg_cmp_lt, lg_cmp_eq, Bool.false_eq_true, Bool.true_eq_false, reduceCtorEq, false_iff, true_iff, iff_true, iff_false, and_true, true_and, and_false, false_and, reduceIte, ite_true, ite_false, eq_self] at *)) <;> omega)), trivial⟩ rfl
        · have mh10 := nle_mx h10
          refine wa_iload_n (i := 2) rfl rfl ?_
          refine wa_bipush (v := 32) (by decide) ?_
          refine wa_icmp_ge o_X6_explore_102 (by decide) (fun h34 => ?_) (fun h34 => ?_)
          · refine wa_aload_n (i := 0) rfl rfl ?_
            refine wa_Vi (d9 := d - 1) [] [] (sp_X6_locate G (d := d - 1) (by omega) s7  (by rw [khi9_0]; first | assumption | exact Or.inl rfl | exact Or.inr rfl | (((try simp only [vp_in_iff, Int32.lt_iff_toInt_lt, Int32.le_iff_toInt_le, ← Int32.toInt_inj, Int32.reduceToInt, n_1, n_2, n_8, Int32.toNatClampNeg, Int64.lt_iff_toInt_lt, Int64.le_iff_toInt_le, ← Int64.toInt_inj, Int64.reduceToInt, Int32.toInt_toInt64, lg_cmp_ge, lg_cmp_le, lg_cmp_gt, lg_cmp_lt, lg_cmp_eq, Bool.false_eq_true, Bool.true_eq_false, reduceCtorEq, false_iff, true_iff, iff_true, iff_false, and_true, true_and, and_false, false_and, reduceIte, ite_true, ite_false, eq_self] at *)) <;> omega))) (rfl) rfl rfl (zr (by omega)) mk_X6_locate ly_31 ml_6_82 (Nat.le_of_ble_eq_true rfl) (fun x36 s35 hs35 => ?_)
            obtain ⟨fs35, cx36_1, -⟩ := pI hs35
            have Fs35 := Sm.tr Fs7 (Sm.wd fs35 (lo' := 31) (hi' := 41) (by decide) (by decide))
            refine wa_pop rfl ?_
            refine wa_iconst (v := 0) (by decide) ?_
            refine wa_istore_nD (lv' := [(2, .int 0), (0, .ref 31)]) (i := 2) rfl (by decide) rfl ?_
            refine wa_pick [1, 0] rfl ?_
            have hi39 : ∀ (n9_109 : Nat) (l2 : Int32) (s37 : St), ((Sm 31 41 σ s37) ∧ (0 ≤ l2.toInt) ∧ (0 ≤ (gi s37 31 13).toInt ∧ (gi s37 31 13).toInt ≤ 3000) ∧ (True)) → (2147483647 - l2.toInt).toNat = n9_109 → WA G M_X6_explore (ZM G M_X6_explore d (fun r σ' => ∃ x : Bool, r = some (.int (bI x)) ∧ Sm 31 41 σ σ' ∧ (0 ≤ (gi σ' 31 13).toInt ∧ (gi σ' 31 13).toInt ≤ 3000) ∧ True)) B_X6_explore_109 [(0, .ref 31), (2, .int l2)] [] s37 := by
              intro n9_109
              induction n9_109 using Nat.strongRecOn with
              | _ n9_109 ih38 =>
                intro l2 s37 i9 m9_109
                obtain ⟨Fs37, jhi39_0, jhi39_1, -⟩ := i9
                have ul2 := Int32.toInt_lt l2
                have wl2 := Int32.le_toInt l2
                refine wa_iload_n (i := 2) rfl rfl ?_
                refine wa_aload_n (i := 0) rfl rfl ?_
                refine wa_geti ck_6 fl_6_52 ly_31 ?_
                refine wa_icmp_ge o_X6_explore_185 (by decide) (fun h40 => ?_) (fun h40 => ?_)
                · refine wa_iconst (v := 1) (by decide) ?_
                  refine wa_zreturn true (rfl) rfl rfl ?_
                  exact ⟨_, rfl, Fs37, (by first | assumption | (((try simp only [vp_in_iff, Int32.lt_iff_toInt_lt, Int32.le_iff_toInt_le, ← Int32.toInt_inj, Int32.reduceToInt, n_1, n_2, n_8, Int32.toNatClampNeg, Int64.lt_iff_toInt_lt, Int64.le_iff_toInt_le, ← Int64.toInt_inj, Int64.reduceToInt, Int32.toInt_toInt64, lg_cmp_ge, lg_cmp_le, lg_cmp_gt, lg_cmp_lt, lg_cmp_eq, Bool.false_eq_true, Bool.true_eq_false, reduceCtorEq, false_iff, true_iff, iff_true, iff_false, and_true, true_and, and_false, false_and, reduceIte, ite_true, ite_false, eq_self] at *)) <;> omega)), trivial⟩
                · have mh40 := nle_mx h40
                  refine wa_iload_n (i := 2) rfl rfl ?_
                  refine wa_sipush (v := 3000) (by decide) ?_
                  refine wa_icmp_ge o_X6_explore_185 (by decide) (fun h41 => ?_) (fun h41 => ?_)
                  · refine wa_iconst (v := 1) (by decide) ?_
                    refine wa_zreturn true (rfl) rfl rfl ?_
                    exact ⟨_, rfl, Fs37, (by first | assumption | (((try simp only [vp_in_iff, Int32.lt_iff_toInt_lt, Int32.le_iff_toInt_le, ← Int32.toInt_inj, Int32.reduceToInt, n_1, n_2, n_8, Int32.toNatClampNeg, Int64.lt_iff_toInt_lt, Int64.le_iff_toInt_le, ← Int64.toInt_inj, Int64.reduceToInt, Int32.toInt_toInt64, lg_cmp_ge, lg_cmp_le, lg_cmp_gt, lg_cmp_lt, lg_cmp_eq, Bool.false_eq_true, Bool.true_eq_false, reduceCtorEq, false_iff, true_iff, iff_true, iff_false, and_true, true_and, and_false, false_and, reduceIte, ite_true, ite_false, eq_self] at *)) <;> omega)), trivial⟩
                  · have mh41 := nle_mx h41
                    refine wa_iconst (v := 0) (by decide) ?_
                    refine wa_istore_nD (lv' := [(3, .int 0), (0, .ref 31), (2, .int l2)]) (i := 3) rfl (by decide) rfl ?_
                    refine wa_pick [1, 2, 0] rfl ?_
                    have hi44 : ∀ (n9_126 : Nat) (l3 : Int32) (s42 : St), ((Sm 31 41 σ s42) ∧ (0 ≤ l3.toInt) ∧ (0 ≤ (gi s42 31 13).toInt ∧ (gi s42 31 13).toInt ≤ 3000) ∧ (True)) → (2147483647 - l3.toInt).toNat = n9_126 → WA G M_X6_explore (ZM G M_X6_explore d (fun r σ' => ∃ x : Bool, r = some (.int (bI x)) ∧ Sm 31 41 σ σ' ∧ (0 ≤ (gi σ' 31 13).toInt ∧ (gi σ' 31 13).toInt ≤ 3000) ∧ True)) B_X6_explore_126 [(0, .ref 31), (2, .int l2), (3, .int l3)] [] s42 := by
                      intro n9_126
                      induction n9_126 using Nat.strongRecOn with
                      | _ n9_126 ih43 =>
                        intro l3 s42 i9 m9_126
                        obtain ⟨Fs42, jhi44_0, jhi44_1, -⟩ := i9
                        have ul3 := Int32.toInt_lt l3
                        have wl3 := Int32.le_toInt l3
                        refine wa_iload_n (i := 3) rfl rfl ?_
                        refine wa_aload_n (i := 0) rfl rfl ?_
                        refine wa_geti ck_6 fl_6_56 ly_31 ?_
                        refine wa_icmp_ge o_X6_explore_179 (by decide) (fun h45 => ?_) (fun h45 => ?_)
                        · refine wa_iinc (v := (1)) (lv' := fun y46 => [(2, .int y46), (0, .ref 31), (3, .int l3)]) (by decide) rfl (by decide) (fun _ => rfl) (fun y46 hy46 => ?_)
                          have ty46 := i_addT hy46.symm
                          clear hy46
                          refine wa_goto o_X6_explore_109 (by decide) ?_
                          refine wa_pick [1, 0] rfl ?_
                          exact ih38 _ (by ((try simp only [vp_in_iff, Int32.lt_iff_toInt_lt, Int32.le_iff_toInt_le, ← Int32.toInt_inj, Int32.reduceToInt, n_1, n_2, n_8, Int32.toNatClampNeg, Int64.lt_iff_toInt_lt, Int64.le_iff_toInt_le, ← Int64.toInt_inj, Int64.reduceToInt, Int32.toInt_toInt64, lg_cmp_ge, lg_cmp_le, lg_cmp_gt, lg_cmp_lt, lg_cmp_eq, Bool.false_eq_true, Bool.true_eq_false, reduceCtorEq, false_iff, true_iff, iff_true, iff_false, and_true, true_and, and_false, false_and, reduceIte, ite_true, ite_false, eq_self] at *)) <;> omega) _ _ ⟨Fs42, (by ((try simp only [vp_in_iff, Int32.lt_iff_toInt_lt, Int32.le_iff_toInt_le, ← Int32.toInt_inj, Int32.reduceToInt, n_1, n_2, n_8, Int32.toNatClampNeg, Int64.lt_iff_toInt_lt, Int64.le_iff_toInt_le, ← Int64.toInt_inj, Int64.reduceToInt, Int32.toInt_toInt64, lg_cmp_ge, lg_cmp_le, lg_cmp_gt, lg_cmp_lt, lg_cmp_eq, Bool.false_eq_true, Bool.true_eq_false, reduceCtorEq, false_iff, true_iff, iff_true, iff_false, and_true, true_and, and_false, false_and, reduceIte, ite_true, ite_false, eq_self] at *)) <;> omega), (by first | assumption | (((try simp only [vp_in_iff, Int32.lt_iff_toInt_lt, Int32.le_iff_toInt_le, ← Int32.toInt_inj, Int32.reduceToInt, n_1, n_2, n_8, Int32.toNatClampNeg, Int64.lt_iff_toInt_lt, Int64.le_iff_toInt_le, ← Int64.toInt_inj, Int64.reduceToInt, Int32.toInt_toInt64, lg_cmp_ge, lg_cmp_le, lg_cmp_gt, lg_cmp_lt, lg_cmp_eq, Bool.false_eq_true, Bool.true_eq_false, reduceCtorEq, false_iff, true_iff, iff_true, iff_false, and_true, true_and, and_false, false_and, reduceIte, ite_true, ite_false, eq_self] at *)) <;> omega)), trivial⟩ rfl
                        · have mh45 := nle_mx h45
                          refine wa_iload_n (i := 3) rfl rfl ?_
                          refine wa_bipush (v := 16) (by decide) ?_
                          refine wa_icmp_ge o_X6_explore_179 (by decide) (fun h47 => ?_) (fun h47 => ?_)
                          · refine wa_iinc (v := (1)) (lv' := fun y48 => [(2, .int y48), (0, .ref 31), (3, .int l3)]) (by decide) rfl (by decide) (fun _ => rfl) (fun y48 hy48 => ?_)
                            have ty48 := i_addT hy48.symm
                            clear hy48
                            refine wa_goto o_X6_explore_109 (by decide) ?_
                            refine wa_pick [1, 0] rfl ?_
                            exact ih38 _ (by ((try simp only [vp_in_iff, Int32.lt_iff_toInt_lt, Int32.le_iff_toInt_le, ← Int32.toInt_inj, Int32.reduceToInt, n_1, n_2, n_8, Int32.toNatClampNeg, Int64.lt_iff_toInt_lt, Int64.le_iff_toInt_le, ← Int64.toInt_inj, Int64.reduceToInt, Int32.toInt_toInt64, lg_cmp_ge, lg_cmp_le, lg_cmp_gt, lg_cmp_lt, lg_cmp_eq, Bool.false_eq_true, Bool.true_eq_false, reduceCtorEq, false_iff, true_iff, iff_true, iff_false, and_true, true_and, and_false, false_and, reduceIte, ite_true, ite_false, eq_self] at *)) <;> omega) _ _ ⟨Fs42, (by ((try simp only [vp_in_iff, Int32.lt_iff_toInt_lt, Int32.le_iff_toInt_le, ← Int32.toInt_inj, Int32.reduceToInt, n_1, n_2, n_8, Int32.toNatClampNeg, Int64.lt_iff_toInt_lt, Int64.le_iff_toInt_le, ← Int64.toInt_inj, Int64.reduceToInt, Int32.toInt_toInt64, lg_cmp_ge, lg_cmp_le, lg_cmp_gt, lg_cmp_lt, lg_cmp_eq, Bool.false_eq_true, Bool.true_eq_false, reduceCtorEq, false_iff, true_iff, iff_true, iff_false, and_true, true_and, and_false, false_and, reduceIte, ite_true, ite_false, eq_self] at *)) <;> omega), (by first | assumption | (((try simp only [vp_in_iff, Int32.lt_iff_toInt_lt, Int32.le_iff_toInt_le, ← Int32.toInt_inj, Int32.reduceToInt, n_1, n_2, n_8, Int32.toNatClampNeg, Int64.lt_iff_toInt_lt, Int64.le_iff_toInt_le, ← Int64.toInt_inj, Int64.reduceToInt, Int32.toInt_toInt64, lg_cmp_ge, lg_cmp_le, lg_cmp_gt, lg_cmp_lt, lg_cmp_eq, Bool.false_eq_true, Bool.true_eq_false, reduceCtorEq, false_iff, true_iff, iff_true, iff_false, and_true, true_and, and_false, false_and, reduceIte, ite_true, ite_false, eq_self] at *)) <;> omega)), trivial⟩ rfl
                          · have mh47 := nle_mx h47
                            refine wa_aload_n (i := 0) rfl rfl ?_
                            refine wa_iload_n (i := 2) rfl rfl ?_
                            refine wa_iload_n (i := 3) rfl rfl ?_
                            refine wa_Vv (d9 := d - 1) [.int _, .int _] [] (sp_X6_halve G (d := d - 1) (by omega) s42 _ _ (by ((try simp only [vp_in_iff, Int32.lt_iff_toInt_lt, Int32.le_iff_toInt_le, ← Int32.toInt_inj, Int32.reduceToInt, n_1, n_2, n_8, Int32.toNatClampNeg, Int64.lt_iff_toInt_lt, Int64.le_iff_toInt_le, ← Int64.toInt_inj, Int64.reduceToInt, Int32.toInt_toInt64, lg_cmp_ge, lg_cmp_le, lg_cmp_gt, lg_cmp_lt, lg_cmp_eq, Bool.false_eq_true, Bool.true_eq_false, reduceCtorEq, false_iff, true_iff, iff_true, iff_false, and_true, true_and, and_false, false_and, reduceIte, ite_true, ite_false, eq_self] at *)) <;> omega) (by ((try simp only [vp_in_iff, Int32.lt_iff_toInt_lt, Int32.le_iff_toInt_le, ← Int32.toInt_inj, Int32.reduceToInt, n_1, n_2, n_8, Int32.toNatClampNeg, Int64.lt_iff_toInt_lt, Int64.le_iff_toInt_le, ← Int64.toInt_inj, Int64.reduceToInt, Int32.toInt_toInt64, lg_cmp_ge, lg_cmp_le, lg_cmp_gt, lg_cmp_lt, lg_cmp_eq, Bool.false_eq_true, Bool.true_eq_false, reduceCtorEq, false_iff, true_iff, iff_true, iff_false, and_true, true_and, and_false, false_and, reduceIte, ite_true, ite_false, eq_self] at *)) <;> omega)) (rfl) rfl rfl (zr (by omega)) mk_X6_halve ly_31 ml_6_86 (Nat.le_of_ble_eq_true rfl) (fun s49 hs49 => ?_)
                            obtain ⟨fs49, -⟩ := hs49
                            have Fs49 := Sm.tr Fs42 (Sm.wd fs49 (lo' := 31) (hi' := 41) (by decide) (by decide))
                            refine wa_aload_n (i := 0) rfl rfl ?_
                            refine wa_Vi (d9 := d - 1) [] [] (sp_X6_locate G (d := d - 1) (by omega) s49  (by rw [Sm.gi fs49 13 (Or.inl (by decide))]; first | assumption | exact Or.inl rfl | exact Or.inr rfl | (((try simp only [vp_in_iff, Int32.lt_iff_toInt_lt, Int32.le_iff_toInt_le, ← Int32.toInt_inj, Int32.reduceToInt, n_1, n_2, n_8, Int32.toNatClampNeg, Int64.lt_iff_toInt_lt, Int64.le_iff_toInt_le, ← Int64.toInt_inj, Int64.reduceToInt, Int32.toInt_toInt64, lg_cmp_ge, lg_cmp_le, lg_cmp_gt, lg_cmp_lt, lg_cmp_eq, Bool.false_eq_true, Bool.true_eq_false, reduceCtorEq, false_iff, true_iff, iff_true, iff_false, and_true, true_and, and_false, false_and, reduceIte, ite_true, ite_false, eq_self] at *)) <;> omega))) (rfl) rfl rfl (zr (by omega)) mk_X6_locate ly_31 ml_6_82 (Nat.le_of_ble_eq_true rfl) (fun x52 s51 hs51 => ?_)
                            obtain ⟨fs51, cx52_1, -⟩ := pI hs51
                            have Fs51 := Sm.tr Fs49 (Sm.wd fs51 (lo' := 31) (hi' := 41) (by decide) (by decide))
                            refine wa_istoreD (lv' := [(4, .int x52), (0, .ref 31), (2, .int l2), (3, .int l3)]) (by decide) rfl ?_
                            refine wa_iload rfl ?_
                            refine wa_iconst (v := (-1)) (by decide) ?_
                            refine wa_icmp_ne o_X6_explore_160 (by decide) (fun h53 => ?_) (fun h53 => ?_)
                            · refine wa_aload_n (i := 0) rfl rfl ?_
                              refine wa_getr ck_6 fl_6_35 ly_31 rf_31_7 ?_
                              refine wa_iload_n (i := 2) rfl rfl ?_
                              refine wa_bipush (v := 16) (by decide) ?_
                              refine wa_imul ?_
                              refine wa_top (fun v54 hv54 => ?_)
                              have tv54 := i_mulT hv54
                              clear hv54
                              refine wa_iload_n (i := 3) rfl rfl ?_
                              refine wa_iadd ?_
                              refine wa_top (fun v55 hv55 => ?_)
                              have tv55 := i_addT hv55
                              clear hv55
                              refine wa_iload rfl ?_
                              refine wa_iast ly_38 (by ((try simp only [vp_in_iff, Int32.lt_iff_toInt_lt, Int32.le_iff_toInt_le, ← Int32.toInt_inj, Int32.reduceToInt, n_1, n_2, n_8, Int32.toNatClampNeg, Int64.lt_iff_toInt_lt, Int64.le_iff_toInt_le, ← Int64.toInt_inj, Int64.reduceToInt, Int32.toInt_toInt64, lg_cmp_ge, lg_cmp_le, lg_cmp_gt, lg_cmp_lt, lg_cmp_eq, Bool.false_eq_true, Bool.true_eq_false, reduceCtorEq, false_iff, true_iff, iff_true, iff_false, and_true, true_and, and_false, false_and, reduceIte, ite_true, ite_false, eq_self] at *)) <;> omega) (fun s56 hs56 => ?_)
                              have Fs56 : Sm 31 41 σ s56 := by rw [hs56]; exact Sm.si Fs51 _ _ (by decide) (by decide)
                              refine wa_iinc (v := (1)) (lv' := fun y57 => [(3, .int y57), (4, .int x52), (0, .ref 31), (2, .int l2)]) (by decide) rfl (by decide) (fun _ => rfl) (fun y57 hy57 => ?_)
                              have ty57 := i_addT hy57.symm
                              clear hy57
                              refine wa_goto o_X6_explore_126 (by decide) ?_
                              refine wa_pick [2, 3, 0] rfl ?_
                              exact ih43 _ (by ((try simp only [vp_in_iff, Int32.lt_iff_toInt_lt, Int32.le_iff_toInt_le, ← Int32.toInt_inj, Int32.reduceToInt, n_1, n_2, n_8, Int32.toNatClampNeg, Int64.lt_iff_toInt_lt, Int64.le_iff_toInt_le, ← Int64.toInt_inj, Int64.reduceToInt, Int32.toInt_toInt64, lg_cmp_ge, lg_cmp_le, lg_cmp_gt, lg_cmp_lt, lg_cmp_eq, Bool.false_eq_true, Bool.true_eq_false, reduceCtorEq, false_iff, true_iff, iff_true, iff_false, and_true, true_and, and_false, false_and, reduceIte, ite_true, ite_false, eq_self] at *)) <;> omega) _ _ ⟨Fs56, (by ((try simp only [vp_in_iff, Int32.lt_iff_toInt_lt, Int32.le_iff_toInt_le, ← Int32.toInt_inj, Int32.reduceToInt, n_1, n_2, n_8, Int32.toNatClampNeg, Int64.lt_iff_toInt_lt, Int64.le_iff_toInt_le, ← Int64.toInt_inj, Int64.reduceToInt, Int32.toInt_toInt64, lg_cmp_ge, lg_cmp_le, lg_cmp_gt, lg_cmp_lt, lg_cmp_eq, Bool.false_eq_true, Bool.true_eq_false, reduceCtorEq, false_iff, true_iff, iff_true, iff_false, and_true, true_and, and_false, false_and, reduceIte, ite_true, ite_false, eq_self] at *)) <;> omega), (by rw [nxq_gi_si hs56 (by decide)]; first | assumption | (((try simp only [vp_in_iff, Int32.lt_iff_toInt_lt, Int32.le_iff_toInt_le, ← Int32.toInt_inj, Int32.reduceToInt, n_1, n_2, n_8, Int32.toNatClampNeg, Int64.lt_iff_toInt_lt, Int64.le_iff_toInt_le, ← Int64.toInt_inj, Int64.reduceToInt, Int32.toInt_toInt64, lg_cmp_ge, lg_cmp_le, lg_cmp_gt, lg_cmp_lt, lg_cmp_eq, Bool.false_eq_true, Bool.true_eq_false, reduceCtorEq, false_iff, true_iff, iff_true, iff_false, and_true, true_and, and_false, false_and, reduceIte, ite_true, ite_false, eq_self] at *)) <;> omega)), trivial⟩ rfl
                            · refine wa_iconst (v := 0) (by decide) ?_
                              refine wa_zreturn false (rfl) rfl rfl ?_
                              exact ⟨_, rfl, Fs51, (by first | assumption | (((try simp only [vp_in_iff, Int32.lt_iff_toInt_lt, Int32.le_iff_toInt_le, ← Int32.toInt_inj, Int32.reduceToInt, n_1, n_2, n_8, Int32.toNatClampNeg, Int64.lt_iff_toInt_lt, Int64.le_iff_toInt_le, ← Int64.toInt_inj, Int64.reduceToInt, Int32.toInt_toInt64, lg_cmp_ge, lg_cmp_le, lg_cmp_gt, lg_cmp_lt, lg_cmp_eq, Bool.false_eq_true, Bool.true_eq_false, reduceCtorEq, false_iff, true_iff, iff_true, iff_false, and_true, true_and, and_false, false_and, reduceIte, ite_true, ite_false, eq_self] at *)) <;> omega)), trivial⟩
                    exact hi44 _ _ _ ⟨Fs37, (by ((try simp only [vp_in_iff, Int32.lt_iff_toInt_lt, Int32.le_iff_toInt_le, ← Int32.toInt_inj, Int32.reduceToInt, n_1, n_2, n_8, Int32.toNatClampNeg, Int64.lt_iff_toInt_lt, Int64.le_iff_toInt_le, ← Int64.toInt_inj, Int64.reduceToInt, Int32.toInt_toInt64, lg_cmp_ge, lg_cmp_le, lg_cmp_gt, lg_cmp_lt, lg_cmp_eq, Bool.false_eq_true, Bool.true_eq_false, reduceCtorEq, false_iff, true_iff, iff_true, iff_false, and_true, true_and, and_false, false_and, reduceIte, ite_true, ite_false, eq_self] at *)) <;> omega), (by first | assumption | (((try simp only [vp_in_iff, Int32.lt_iff_toInt_lt, Int32.le_iff_toInt_le, ← Int32.toInt_inj, Int32.reduceToInt, n_1, n_2, n_8, Int32.toNatClampNeg, Int64.lt_iff_toInt_lt, Int64.le_iff_toInt_le, ← Int64.toInt_inj, Int64.reduceToInt, Int32.toInt_toInt64, lg_cmp_ge, lg_cmp_le, lg_cmp_gt, lg_cmp_lt, lg_cmp_eq, Bool.false_eq_true, Bool.true_eq_false, reduceCtorEq, false_iff, true_iff, iff_true, iff_false, and_true, true_and, and_false, false_and, reduceIte, ite_true, ite_false, eq_self] at *)) <;> omega)), trivial⟩ rfl
            exact hi39 _ _ _ ⟨Fs35, (by ((try simp only [vp_in_iff, Int32.lt_iff_toInt_lt, Int32.le_iff_toInt_le, ← Int32.toInt_inj, Int32.reduceToInt, n_1, n_2, n_8, Int32.toNatClampNeg, Int64.lt_iff_toInt_lt, Int64.le_iff_toInt_le, ← Int64.toInt_inj, Int64.reduceToInt, Int32.toInt_toInt64, lg_cmp_ge, lg_cmp_le, lg_cmp_gt, lg_cmp_lt, lg_cmp_eq, Bool.false_eq_true, Bool.true_eq_false, reduceCtorEq, false_iff, true_iff, iff_true, iff_false, and_true, true_and, and_false, false_and, reduceIte, ite_true, ite_false, eq_self] at *)) <;> omega), (by first | assumption | (((try simp only [vp_in_iff, Int32.lt_iff_toInt_lt, Int32.le_iff_toInt_le, ← Int32.toInt_inj, Int32.reduceToInt, n_1, n_2, n_8, Int32.toNatClampNeg, Int64.lt_iff_toInt_lt, Int64.le_iff_toInt_le, ← Int64.toInt_inj, Int64.reduceToInt, Int32.toInt_toInt64, lg_cmp_ge, lg_cmp_le, lg_cmp_gt, lg_cmp_lt, lg_cmp_eq, Bool.false_eq_true, Bool.true_eq_false, reduceCtorEq, false_iff, true_iff, iff_true, iff_false, and_true, true_and, and_false, false_and, reduceIte, ite_true, ite_false, eq_self] at *)) <;> omega)), trivial⟩ rfl
          · have mh34 := nle_mx h34
            refine wa_aload_n (i := 0) rfl rfl ?_
            refine wa_getr ck_6 fl_6_44 ly_31 rf_31_0 ?_
            refine wa_aload_n (i := 0) rfl rfl ?_
            refine wa_getr ck_6 fl_6_11 ly_31 rf_31_1 ?_
            refine wa_iload_n (i := 2) rfl rfl ?_
            refine wa_iald ly_32 (by ((try simp only [vp_in_iff, Int32.lt_iff_toInt_lt, Int32.le_iff_toInt_le, ← Int32.toInt_inj, Int32.reduceToInt, n_1, n_2, n_8, Int32.toNatClampNeg, Int64.lt_iff_toInt_lt, Int64.le_iff_toInt_le, ← Int64.toInt_inj, Int64.reduceToInt, Int32.toInt_toInt64, lg_cmp_ge, lg_cmp_le, lg_cmp_gt, lg_cmp_lt, lg_cmp_eq, Bool.false_eq_true, Bool.true_eq_false, reduceCtorEq, false_iff, true_iff, iff_true, iff_false, and_true, true_and, and_false, false_and, reduceIte, ite_true, ite_false, eq_self] at *)) <;> omega) ?_
            refine wa_iconst (v := 5) (by decide) ?_
            refine wa_Vi (d9 := d - 1) [.int _, .int _] [] (sp_X2_pooled G (d := d - 1) (by omega) s7 _ _) (rfl) rfl rfl (zr (by omega)) mk_X2_pooled ly_7 ml_6_79 (Nat.le_of_ble_eq_true rfl) (fun x59 s58 hs58 => ?_)
            obtain ⟨zs58, -⟩ := pI hs58
            subst zs58
            refine wa_istore_nD (lv' := [(3, .int x59), (0, .ref 31), (2, .int l2)]) (i := 3) rfl (by decide) rfl ?_
            refine wa_aload_n (i := 0) rfl rfl ?_
            refine wa_getr ck_6 fl_6_44 ly_31 rf_31_0 ?_
            refine wa_aload_n (i := 0) rfl rfl ?_
            refine wa_getr ck_6 fl_6_11 ly_31 rf_31_1 ?_
            refine wa_iload_n (i := 2) rfl rfl ?_
            refine wa_iald ly_32 (by ((try simp only [vp_in_iff, Int32.lt_iff_toInt_lt, Int32.le_iff_toInt_le, ← Int32.toInt_inj, Int32.reduceToInt, n_1, n_2, n_8, Int32.toNatClampNeg, Int64.lt_iff_toInt_lt, Int64.le_iff_toInt_le, ← Int64.toInt_inj, Int64.reduceToInt, Int32.toInt_toInt64, lg_cmp_ge, lg_cmp_le, lg_cmp_gt, lg_cmp_lt, lg_cmp_eq, Bool.false_eq_true, Bool.true_eq_false, reduceCtorEq, false_iff, true_iff, iff_true, iff_false, and_true, true_and, and_false, false_and, reduceIte, ite_true, ite_false, eq_self] at *)) <;> omega) ?_
            refine wa_iconst (v := 4) (by decide) ?_
            refine wa_Vi (d9 := d - 1) [.int _, .int _] [] (sp_X2_pooled G (d := d - 1) (by omega) s7 _ _) (rfl) rfl rfl (zr (by omega)) mk_X2_pooled ly_7 ml_6_79 (Nat.le_of_ble_eq_true rfl) (fun x61 s60 hs60 => ?_)
            obtain ⟨zs60, -⟩ := pI hs60
            subst zs60
            refine wa_istoreD (lv' := [(4, .int x61), (3, .int x59), (0, .ref 31), (2, .int l2)]) (by decide) rfl ?_
            refine wa_aload_n (i := 0) rfl rfl ?_
            refine wa_getr ck_6 fl_6_27 ly_31 rf_31_5 ?_
            refine wa_iload_n (i := 2) rfl rfl ?_
            refine wa_aload_n (i := 0) rfl rfl ?_
            refine wa_getr ck_6 fl_6_20 ly_31 rf_31_3 ?_
            refine wa_iload_n (i := 2) rfl rfl ?_
            refine wa_zald ly_34 (by ((try simp only [vp_in_iff, Int32.lt_iff_toInt_lt, Int32.le_iff_toInt_le, ← Int32.toInt_inj, Int32.reduceToInt, n_1, n_2, n_8, Int32.toNatClampNeg, Int64.lt_iff_toInt_lt, Int64.le_iff_toInt_le, ← Int64.toInt_inj, Int64.reduceToInt, Int32.toInt_toInt64, lg_cmp_ge, lg_cmp_le, lg_cmp_gt, lg_cmp_lt, lg_cmp_eq, Bool.false_eq_true, Bool.true_eq_false, reduceCtorEq, false_iff, true_iff, iff_true, iff_false, and_true, true_and, and_false, false_and, reduceIte, ite_true, ite_false, eq_self] at *)) <;> omega) ?_
            refine wa_if_eq o_X6_explore_89 (by decide) (fun h62 => ?_) (fun h62 => ?_)
            · replace h62 := bI_f (b := (gb s7 34 (l2).toNatClampNeg)) (rfl) h62
              refine wa_iload_n (i := 3) rfl rfl ?_
              refine wa_iconst (v := 4) (by decide) ?_
              refine wa_ishl ?_
              refine wa_top (fun v63 hv63 => ?_)
              clear hv63
              refine wa_iload rfl ?_
              refine wa_ior ?_
              refine wa_top (fun v64 hv64 => ?_)
              clear hv64
              refine wa_iast ly_36 (by ((try simp only [vp_in_iff, Int32.lt_iff_toInt_lt, Int32.le_iff_toInt_le, ← Int32.toInt_inj, Int32.reduceToInt, n_1, n_2, n_8, Int32.toNatClampNeg, Int64.lt_iff_toInt_lt, Int64.le_iff_toInt_le, ← Int64.toInt_inj, Int64.reduceToInt, Int32.toInt_toInt64, lg_cmp_ge, lg_cmp_le, lg_cmp_gt, lg_cmp_lt, lg_cmp_eq, Bool.false_eq_true, Bool.true_eq_false, reduceCtorEq, false_iff, true_iff, iff_true, iff_false, and_true, true_and, and_false, false_and, reduceIte, ite_true, ite_false, eq_self] at *)) <;> omega) (fun s65 hs65 => ?_)
              have Fs65 : Sm 31 41 σ s65 := by rw [hs65]; exact Sm.si Fs7 _ _ (by decide) (by decide)
              refine wa_iinc (v := (1)) (lv' := fun y66 => [(2, .int y66), (4, .int x61), (3, .int x59), (0, .ref 31)]) (by decide) rfl (by decide) (fun _ => rfl) (fun y66 hy66 => ?_)
              have ty66 := i_addT hy66.symm
              clear hy66
              refine wa_goto o_X6_explore_25 (by decide) ?_
              refine wa_pick [3, 0] rfl ?_
              exact ih8 _ (by ((try simp only [vp_in_iff, Int32.lt_iff_toInt_lt, Int32.le_iff_toInt_le, ← Int32.toInt_inj, Int32.reduceToInt, n_1, n_2, n_8, Int32.toNatClampNeg, Int64.lt_iff_toInt_lt, Int64.le_iff_toInt_le, ← Int64.toInt_inj, Int64.reduceToInt, Int32.toInt_toInt64, lg_cmp_ge, lg_cmp_le, lg_cmp_gt, lg_cmp_lt, lg_cmp_eq, Bool.false_eq_true, Bool.true_eq_false, reduceCtorEq, false_iff, true_iff, iff_true, iff_false, and_true, true_and, and_false, false_and, reduceIte, ite_true, ite_false, eq_self] at *)) <;> omega) _ _ ⟨Fs65, ((nxq_gi_si hs65 (by decide)).trans (khi9_0)), ((nxq_gi_si hs65 (by decide)).trans (khi9_1)), ((nxq_gi_si hs65 (by decide)).trans (khi9_2)), (by ((try simp only [vp_in_iff, Int32.lt_iff_toInt_lt, Int32.le_iff_toInt_le, ← Int32.toInt_inj, Int32.reduceToInt, n_1, n_2, n_8, Int32.toNatClampNeg, Int64.lt_iff_toInt_lt, Int64.le_iff_toInt_le, ← Int64.toInt_inj, Int64.reduceToInt, Int32.toInt_toInt64, lg_cmp_ge, lg_cmp_le, lg_cmp_gt, lg_cmp_lt, lg_cmp_eq, Bool.false_eq_true, Bool.true_eq_false, reduceCtorEq, false_iff, true_iff, iff_true, iff_false, and_true, true_and, and_false, false_and, reduceIte, ite_true, ite_false, eq_self] at *)) <;> omega), trivial⟩ rfl
            · replace h62 := bI_t (b := (gb s7 34 (l2).toNatClampNeg)) (rfl) h62
              refine wa_iload rfl ?_
              refine wa_goto o_X6_explore_95 (by decide) ?_
              refine wa_iast ly_36 (by ((try simp only [vp_in_iff, Int32.lt_iff_toInt_lt, Int32.le_iff_toInt_le, ← Int32.toInt_inj, Int32.reduceToInt, n_1, n_2, n_8, Int32.toNatClampNeg, Int64.lt_iff_toInt_lt, Int64.le_iff_toInt_le, ← Int64.toInt_inj, Int64.reduceToInt, Int32.toInt_toInt64, lg_cmp_ge, lg_cmp_le, lg_cmp_gt, lg_cmp_lt, lg_cmp_eq, Bool.false_eq_true, Bool.true_eq_false, reduceCtorEq, false_iff, true_iff, iff_true, iff_false, and_true, true_and, and_false, false_and, reduceIte, ite_true, ite_false, eq_self] at *)) <;> omega) (fun s67 hs67 => ?_)
              have Fs67 : Sm 31 41 σ s67 := by rw [hs67]; exact Sm.si Fs7 _ _ (by decide) (by decide)
              refine wa_iinc (v := (1)) (lv' := fun y68 => [(2, .int y68), (4, .int x61), (3, .int x59), (0, .ref 31)]) (by decide) rfl (by decide) (fun _ => rfl) (fun y68 hy68 => ?_)
              have ty68 := i_addT hy68.symm
              clear hy68
              refine wa_goto o_X6_explore_25 (by decide) ?_
              refine wa_pick [3, 0] rfl ?_
              exact ih8 _ (by ((try simp only [vp_in_iff, Int32.lt_iff_toInt_lt, Int32.le_iff_toInt_le, ← Int32.toInt_inj, Int32.reduceToInt, n_1, n_2, n_8, Int32.toNatClampNeg, Int64.lt_iff_toInt_lt, Int64.le_iff_toInt_le, ← Int64.toInt_inj, Int64.reduceToInt, Int32.toInt_toInt64, lg_cmp_ge, lg_cmp_le, lg_cmp_gt, lg_cmp_lt, lg_cmp_eq, Bool.false_eq_true, Bool.true_eq_false, reduceCtorEq, false_iff, true_iff, iff_true, iff_false, and_true, true_and, and_false, false_and, reduceIte, ite_true, ite_false, eq_self] at *)) <;> omega) _ _ ⟨Fs67, ((nxq_gi_si hs67 (by decide)).trans (khi9_0)), ((nxq_gi_si hs67 (by decide)).trans (khi9_1)), ((nxq_gi_si hs67 (by decide)).trans (khi9_2)), (by ((try simp only [vp_in_iff, Int32.lt_iff_toInt_lt, Int32.le_iff_toInt_le, ← Int32.toInt_inj, Int32.reduceToInt, n_1, n_2, n_8, Int32.toNatClampNeg, Int64.lt_iff_toInt_lt, Int64.le_iff_toInt_le, ← Int64.toInt_inj, Int64.reduceToInt, Int32.toInt_toInt64, lg_cmp_ge, lg_cmp_le, lg_cmp_gt, lg_cmp_lt, lg_cmp_eq, Bool.false_eq_true, Bool.true_eq_false, reduceCtorEq, false_iff, true_iff, iff_true, iff_false, and_true, true_and, and_false, false_and, reduceIte, ite_true, ite_false, eq_self] at *)) <;> omega), trivial⟩ rfl
    exact hi9 _ _ _ ⟨Fs6, (nxe_gi_si hs6), ((nxk_gi_si hs6 (by decide)).trans (Sm.gi fs4 10 (Or.inl (by decide)))), ((nxk_gi_si hs6 (by decide)).trans (Sm.gi fs4 12 (Or.inl (by decide)))), (by ((try simp only [vp_in_iff, Int32.lt_iff_toInt_lt, Int32.le_iff_toInt_le, ← Int32.toInt_inj, Int32.reduceToInt, n_1, n_2, n_8, Int32.toNatClampNeg, Int64.lt_iff_toInt_lt, Int64.le_iff_toInt_le, ← Int64.toInt_inj, Int64.reduceToInt, Int32.toInt_toInt64, lg_cmp_ge, lg_cmp_le, lg_cmp_gt, lg_cmp_lt, lg_cmp_eq, Bool.false_eq_true, Bool.true_eq_false, reduceCtorEq, false_iff, true_iff, iff_true, iff_false, and_true, true_and, and_false, false_and, reduceIte, ite_true, ite_false, eq_self] at *)) <;> omega), trivial⟩ rfl
  · replace h3 := bI_f (b := bx2) (rfl) h3
    refine wa_iconst (v := 0) (by decide) ?_
    refine wa_zreturn false (rfl) rfl rfl ?_
    exact ⟨_, rfl, Fs1, (by first | assumption | (((try simp only [vp_in_iff, Int32.lt_iff_toInt_lt, Int32.le_iff_toInt_le, ← Int32.toInt_inj, Int32.reduceToInt, n_1, n_2, n_8, Int32.toNatClampNeg, Int64.lt_iff_toInt_lt, Int64.le_iff_toInt_le, ← Int64.toInt_inj, Int64.reduceToInt, Int32.toInt_toInt64, lg_cmp_ge, lg_cmp_le, lg_cmp_gt, lg_cmp_lt, lg_cmp_eq, Bool.false_eq_true, Bool.true_eq_false, reduceCtorEq, false_iff, true_iff, iff_true, iff_false, and_true, true_and, and_false, false_and, reduceIte, ite_true, ite_false, eq_self] at *)) <;> omega)), trivial⟩
set_option maxHeartbeats 4000000 in
theorem sp_X6_atomsAt (G : kG9) {d : Nat} (hd : 0 ≤ d) (σ : St) (a0 : Int32) (a1 : Int32) (p1 : 0 ≤ a0.toInt) (p2 : 0 ≤ a1.toInt ∧ a1.toInt < 16) : Ct G M_X6_atomsAt d [.ref 31, .int a0, .int a1] σ (fun r σ' => ∃ x : Int32, r = some (.int x) ∧ σ = σ' ∧ True) := by
  refine wa_start (by decide) rfl (Nat.le_of_ble_eq_true rfl) (lv := [(0, .ref 31), (1, .int a0), (2, .int a1)]) rfl o_X6_atomsAt_0 rfl ?_
  have ua0 := Int32.toInt_lt a0
  have wa0 := Int32.le_toInt a0
  have ua1 := Int32.toInt_lt a1
  have wa1 := Int32.le_toInt a1
  refine wa_iconst (v := 0) (by decide) ?_
  refine wa_istore_nD (lv' := [(3, .int 0), (0, .ref 31), (1, .int a0), (2, .int a1)]) (i := 3) rfl (by decide) rfl ?_
  refine wa_iload_n (i := 1) rfl rfl ?_
  refine wa_sipush (v := 2999) (by decide) ?_
  refine wa_minI zs (allW_in (kT_6 _ (List.mem_of_getElem? (i := 103) rfl)) rfl) (Nat.le_of_ble_eq_true rfl) ?_
  refine wa_top (fun v1 hv1 => ?_)
  have tv1 := i_minI hv1
  clear hv1
  refine wa_bipush (v := 32) (by decide) ?_
  refine wa_imul ?_
  refine wa_top (fun v2 hv2 => ?_)
  have tv2 := i_mulT hv2
  clear hv2
  refine wa_istoreD (lv' := [(4, .int v2), (3, .int 0), (0, .ref 31), (1, .int a0), (2, .int a1)]) (by decide) rfl ?_
  refine wa_iconst (v := 0) (by decide) ?_
  refine wa_istoreD (lv' := [(5, .int 0), (4, .int v2), (3, .int 0), (0, .ref 31), (1, .int a0), (2, .int a1)]) (by decide) rfl ?_
  refine wa_pick [3, 5, 2, 1, 0] rfl ?_
  have hi4 : ∀ (n9_17 : Nat) (l3 : Int32) (l5 : Int32), ((0 ≤ l5.toInt) ∧ (True)) → (2147483647 - l5.toInt).toNat = n9_17 → WA G M_X6_atomsAt (ZM G M_X6_atomsAt d (fun r σ' => ∃ x : Int32, r = some (.int x) ∧ σ = σ' ∧ True)) B_X6_atomsAt_17 [(0, .ref 31), (2, .int a1), (3, .int l3), (4, .int v2), (5, .int l5)] [] σ := by
    intro n9_17
    induction n9_17 using Nat.strongRecOn with
    | _ n9_17 ih3 =>
      intro l3 l5  i9 m9_17
      obtain ⟨jhi4_0, -⟩ := i9
      have ul3 := Int32.toInt_lt l3
      have wl3 := Int32.le_toInt l3
      have ul5 := Int32.toInt_lt l5
      have wl5 := Int32.le_toInt l5
      refine wa_iload rfl ?_
      refine wa_aload_n (i := 0) rfl rfl ?_
      refine wa_geti ck_6 fl_6_76 ly_31 ?_
      refine wa_icmp_ge o_X6_atomsAt_149 (by decide) (fun h5 => ?_) (fun h5 => ?_)
      · refine wa_iload_n (i := 3) rfl rfl ?_
        refine wa_ireturn rfl rfl ?_
        exact ⟨_, rfl, rfl, trivial⟩
      · have mh5 := nle_mx h5
        refine wa_iload rfl ?_
        refine wa_bipush (v := 32) (by decide) ?_
        refine wa_icmp_ge o_X6_atomsAt_149 (by decide) (fun h6 => ?_) (fun h6 => ?_)
        · refine wa_iload_n (i := 3) rfl rfl ?_
          refine wa_ireturn rfl rfl ?_
          exact ⟨_, rfl, rfl, trivial⟩
        · have mh6 := nle_mx h6
          refine wa_aload_n (i := 0) rfl rfl ?_
          refine wa_getr ck_6 fl_6_31 ly_31 rf_31_6 ?_
          refine wa_iload rfl ?_
          refine wa_iload rfl ?_
          refine wa_iadd ?_
          refine wa_top (fun v7 hv7 => ?_)
          have tv7 := i_addT hv7
          clear hv7
          refine wa_iald ly_37 (by ((try simp only [vp_in_iff, Int32.lt_iff_toInt_lt, Int32.le_iff_toInt_le, ← Int32.toInt_inj, Int32.reduceToInt, n_1, n_2, n_8, Int32.toNatClampNeg, Int64.lt_iff_toInt_lt, Int64.le_iff_toInt_le, ← Int64.toInt_inj, Int64.reduceToInt, Int32.toInt_toInt64, lg_cmp_ge, lg_cmp_le, lg_cmp_gt, lg_cmp_lt, lg_cmp_eq, Bool.false_eq_true, Bool.true_eq_false, reduceCtorEq, false_iff, true_iff, iff_true, iff_false, and_true, true_and, and_false, false_and, reduceIte, ite_true, ite_false, eq_self] at *)) <;> omega) ?_
          refine wa_istoreD (lv' := [(6, .int (gi σ 37 (v7).toNatClampNeg)), (0, .ref 31), (2, .int a1), (3, .int l3), (4, .int v2), (5, .int l5)]) (by decide) rfl ?_
          refine wa_aload_n (i := 0) rfl rfl ?_
          refine wa_getr ck_6 fl_6_24 ly_31 rf_31_4 ?_
          refine wa_iload_n (i := 2) rfl rfl ?_
          refine wa_bipush (v := 32) (by decide) ?_
          refine wa_imul ?_
          refine wa_top (fun v8 hv8 => ?_)
          have tv8 := i_mulT hv8
          clear hv8
          refine wa_iload rfl ?_
          refine wa_iadd ?_
          refine wa_top (fun v9 hv9 => ?_)
          have tv9 := i_addT hv9
          clear hv9
          refine wa_iald ly_35 (by ((try simp only [vp_in_iff, Int32.lt_iff_toInt_lt, Int32.le_iff_toInt_le, ← Int32.toInt_inj, Int32.reduceToInt, n_1, n_2, n_8, Int32.toNatClampNeg, Int64.lt_iff_toInt_lt, Int64.le_iff_toInt_le, ← Int64.toInt_inj, Int64.reduceToInt, Int32.toInt_toInt64, lg_cmp_ge, lg_cmp_le, lg_cmp_gt, lg_cmp_lt, lg_cmp_eq, Bool.false_eq_true, Bool.true_eq_false, reduceCtorEq, false_iff, true_iff, iff_true, iff_false, and_true, true_and, and_false, false_and, reduceIte, ite_true, ite_false, eq_self] at *)) <;> omega) ?_
          refine wa_istoreD (lv' := [(7, .int (gi σ 35 (v9).toNatClampNeg)), (6, .int (gi σ 37 (v7).toNatClampNeg)), (0, .ref 31), (2, .int a1), (3, .int l3), (4, .int v2), (5, .int l5)]) (by decide) rfl ?_
          refine wa_iload rfl ?_
          refine wa_iload rfl ?_
          refine wa_iadd ?_
          refine wa_top (fun v10 hv10 => ?_)
          have tv10 := i_addT hv10
          clear hv10
          refine wa_if_lt o_X6_atomsAt_71 (by decide) (fun h11 => ?_) (fun h11 => ?_)
          · refine wa_iconst (v := 0) (by decide) ?_
            refine wa_istoreD (lv' := [(8, .int (bI false)), (7, .int (gi σ 35 (v9).toNatClampNeg)), (6, .int (gi σ 37 (v7).toNatClampNeg)), (0, .ref 31), (2, .int a1), (3, .int l3), (4, .int v2), (5, .int l5)]) (by decide) rfl ?_
            refine wa_aload_n (i := 0) rfl rfl ?_
            refine wa_getr ck_6 fl_6_20 ly_31 rf_31_3 ?_
            refine wa_iload rfl ?_
            refine wa_zald ly_34 (by ((try simp only [vp_in_iff, Int32.lt_iff_toInt_lt, Int32.le_iff_toInt_le, ← Int32.toInt_inj, Int32.reduceToInt, n_1, n_2, n_8, Int32.toNatClampNeg, Int64.lt_iff_toInt_lt, Int64.le_iff_toInt_le, ← Int64.toInt_inj, Int64.reduceToInt, Int32.toInt_toInt64, lg_cmp_ge, lg_cmp_le, lg_cmp_gt, lg_cmp_lt, lg_cmp_eq, Bool.false_eq_true, Bool.true_eq_false, reduceCtorEq, false_iff, true_iff, iff_true, iff_false, and_true, true_and, and_false, false_and, reduceIte, ite_true, ite_false, eq_self] at *)) <;> omega) ?_
            refine wa_if_ne o_X6_atomsAt_127 (by decide) (fun h12 => ?_) (fun h12 => ?_)
            · replace h12 := bI_t (b := (gb σ 34 (l5).toNatClampNeg)) (rfl) h12
              refine wa_iload_n (i := 3) rfl rfl ?_
              refine wa_iload rfl ?_
              refine wa_if_eq o_X6_atomsAt_140 (by decide) (fun h13 => ?_) (fun h13 => ?_)
              · replace h13 := bI_f (b := false) (rfl) h13
                refine wa_iconst (v := 0) (by decide) ?_
                refine wa_ior ?_
                refine wa_top (fun v14 hv14 => ?_)
                clear hv14
                refine wa_istore_nD (lv' := [(3, .int v14), (8, .int (bI false)), (7, .int (gi σ 35 (v9).toNatClampNeg)), (6, .int (gi σ 37 (v7).toNatClampNeg)), (0, .ref 31), (2, .int a1), (4, .int v2), (5, .int l5)]) (i := 3) rfl (by decide) rfl ?_
                refine wa_iinc (v := (1)) (lv' := fun y15 => [(5, .int y15), (3, .int v14), (8, .int (bI false)), (7, .int (gi σ 35 (v9).toNatClampNeg)), (6, .int (gi σ 37 (v7).toNatClampNeg)), (0, .ref 31), (2, .int a1), (4, .int v2)]) (by decide) rfl (by decide) (fun _ => rfl) (fun y15 hy15 => ?_)
                have ty15 := i_addT hy15.symm
                clear hy15
                refine wa_goto o_X6_atomsAt_17 (by decide) ?_
                refine wa_pick [5, 6, 1, 7, 0] rfl ?_
                exact ih3 _ (by ((try simp only [vp_in_iff, Int32.lt_iff_toInt_lt, Int32.le_iff_toInt_le, ← Int32.toInt_inj, Int32.reduceToInt, n_1, n_2, n_8, Int32.toNatClampNeg, Int64.lt_iff_toInt_lt, Int64.le_iff_toInt_le, ← Int64.toInt_inj, Int64.reduceToInt, Int32.toInt_toInt64, lg_cmp_ge, lg_cmp_le, lg_cmp_gt, lg_cmp_lt, lg_cmp_eq, Bool.false_eq_true, Bool.true_eq_false, reduceCtorEq, false_iff, true_iff, iff_true, iff_false, and_true, true_and, and_false, false_and, reduceIte, ite_true, ite_false, eq_self] at *)) <;> omega) _ _ ⟨(by ((try simp only [vp_in_iff, Int32.lt_iff_toInt_lt, Int32.le_iff_toInt_le, ← Int32.toInt_inj, Int32.reduceToInt, n_1, n_2, n_8, Int32.toNatClampNeg, Int64.lt_iff_toInt_lt, Int64.le_iff_toInt_le, ← Int64.toInt_inj, Int64.reduceToInt, Int32.toInt_toInt64, lg_cmp_ge, lg_cmp_le, lg_cmp_gt, lg_cmp_lt, lg_cmp_eq, Bool.false_eq_true, Bool.true_eq_false, reduceCtorEq, false_iff, true_iff, iff_true, iff_false, and_true, true_and, and_false, false_and, reduceIte, ite_true, ite_false, eq_self] at *)) <;> omega), trivial⟩ rfl
              · replace h13 := bI_t (b := false) (rfl) h13
                refine wa_iconst (v := 1) (by decide) ?_
                refine wa_iload rfl ?_
                refine wa_ishl ?_
                refine wa_top (fun v16 hv16 => ?_)
                clear hv16
                refine wa_goto o_X6_atomsAt_141 (by decide) ?_
                refine wa_ior ?_
                refine wa_top (fun v17 hv17 => ?_)
                clear hv17
                refine wa_istore_nD (lv' := [(3, .int v17), (8, .int (bI false)), (7, .int (gi σ 35 (v9).toNatClampNeg)), (6, .int (gi σ 37 (v7).toNatClampNeg)), (0, .ref 31), (2, .int a1), (4, .int v2), (5, .int l5)]) (i := 3) rfl (by decide) rfl ?_
                refine wa_iinc (v := (1)) (lv' := fun y18 => [(5, .int y18), (3, .int v17), (8, .int (bI false)), (7, .int (gi σ 35 (v9).toNatClampNeg)), (6, .int (gi σ 37 (v7).toNatClampNeg)), (0, .ref 31), (2, .int a1), (4, .int v2)]) (by decide) rfl (by decide) (fun _ => rfl) (fun y18 hy18 => ?_)
                have ty18 := i_addT hy18.symm
                clear hy18
                refine wa_goto o_X6_atomsAt_17 (by decide) ?_
                refine wa_pick [5, 6, 1, 7, 0] rfl ?_
                exact ih3 _ (by ((try simp only [vp_in_iff, Int32.lt_iff_toInt_lt, Int32.le_iff_toInt_le, ← Int32.toInt_inj, Int32.reduceToInt, n_1, n_2, n_8, Int32.toNatClampNeg, Int64.lt_iff_toInt_lt, Int64.le_iff_toInt_le, ← Int64.toInt_inj, Int64.reduceToInt, Int32.toInt_toInt64, lg_cmp_ge, lg_cmp_le, lg_cmp_gt, lg_cmp_lt, lg_cmp_eq, Bool.false_eq_true, Bool.true_eq_false, reduceCtorEq, false_iff, true_iff, iff_true, iff_false, and_true, true_and, and_false, false_and, reduceIte, ite_true, ite_false, eq_self] at *)) <;> omega) _ _ ⟨(by ((try simp only [vp_in_iff, Int32.lt_iff_toInt_lt, Int32.le_iff_toInt_le, ← Int32.toInt_inj, Int32.reduceToInt, n_1, n_2, n_8, Int32.toNatClampNeg, Int64.lt_iff_toInt_lt, Int64.le_iff_toInt_le, ← Int64.toInt_inj, Int64.reduceToInt, Int32.toInt_toInt64, lg_cmp_ge, lg_cmp_le, lg_cmp_gt, lg_cmp_lt, lg_cmp_eq, Bool.false_eq_true, Bool.true_eq_false, reduceCtorEq, false_iff, true_iff, iff_true, iff_false, and_true, true_and, and_false, false_and, reduceIte, ite_true, ite_false, eq_self] at *)) <;> omega), trivial⟩ rfl
            · replace h12 := bI_f (b := (gb σ 34 (l5).toNatClampNeg)) (rfl) h12
              refine wa_iconst (v := 1) (by decide) ?_
              refine wa_iload rfl ?_
              refine wa_iconst (v := 4) (by decide) ?_
              refine wa_ishr ?_
              refine wa_top (fun v19 hv19 => ?_)
              clear hv19
              refine wa_maxI zs (allW_in (kT_6 _ (List.mem_of_getElem? (i := 104) rfl)) rfl) (Nat.le_of_ble_eq_true rfl) ?_
              refine wa_top (fun v20 hv20 => ?_)
              have tv20 := i_maxI hv20
              clear hv20
              refine wa_istoreD (lv' := [(9, .int v20), (8, .int (bI false)), (7, .int (gi σ 35 (v9).toNatClampNeg)), (6, .int (gi σ 37 (v7).toNatClampNeg)), (0, .ref 31), (2, .int a1), (3, .int l3), (4, .int v2), (5, .int l5)]) (by decide) rfl ?_
              refine wa_iload rfl ?_
              refine wa_bipush (v := (-2)) (by decide) ?_
              refine wa_icmp_eq o_X6_atomsAt_120 (by decide) (fun h21 => ?_) (fun h21 => ?_)
              · refine wa_iconst (v := 1) (by decide) ?_
                refine wa_goto o_X6_atomsAt_125 (by decide) ?_
                refine wa_istoreD (lv' := [(8, .int (bI true)), (9, .int v20), (7, .int (gi σ 35 (v9).toNatClampNeg)), (6, .int (gi σ 37 (v7).toNatClampNeg)), (0, .ref 31), (2, .int a1), (3, .int l3), (4, .int v2), (5, .int l5)]) (by decide) rfl ?_
                refine wa_iload_n (i := 3) rfl rfl ?_
                refine wa_iload rfl ?_
                refine wa_if_eq o_X6_atomsAt_140 (by decide) (fun h22 => ?_) (fun h22 => ?_)
                · replace h22 := bI_f (b := true) (rfl) h22
                  refine wa_iconst (v := 0) (by decide) ?_
                  refine wa_ior ?_
                  refine wa_top (fun v23 hv23 => ?_)
                  clear hv23
                  refine wa_istore_nD (lv' := [(3, .int v23), (8, .int (bI true)), (9, .int v20), (7, .int (gi σ 35 (v9).toNatClampNeg)), (6, .int (gi σ 37 (v7).toNatClampNeg)), (0, .ref 31), (2, .int a1), (4, .int v2), (5, .int l5)]) (i := 3) rfl (by decide) rfl ?_
                  refine wa_iinc (v := (1)) (lv' := fun y24 => [(5, .int y24), (3, .int v23), (8, .int (bI true)), (9, .int v20), (7, .int (gi σ 35 (v9).toNatClampNeg)), (6, .int (gi σ 37 (v7).toNatClampNeg)), (0, .ref 31), (2, .int a1), (4, .int v2)]) (by decide) rfl (by decide) (fun _ => rfl) (fun y24 hy24 => ?_)
                  have ty24 := i_addT hy24.symm
                  clear hy24
                  refine wa_goto o_X6_atomsAt_17 (by decide) ?_
                  refine wa_pick [6, 7, 1, 8, 0] rfl ?_
                  exact ih3 _ (by ((try simp only [vp_in_iff, Int32.lt_iff_toInt_lt, Int32.le_iff_toInt_le, ← Int32.toInt_inj, Int32.reduceToInt, n_1, n_2, n_8, Int32.toNatClampNeg, Int64.lt_iff_toInt_lt, Int64.le_iff_toInt_le, ← Int64.toInt_inj, Int64.reduceToInt, Int32.toInt_toInt64, lg_cmp_ge, lg_cmp_le, lg_cmp_gt, lg_cmp_lt, lg_cmp_eq, Bool.false_eq_true, Bool.true_eq_false, reduceCtorEq, false_iff, true_iff, iff_true, iff_false, and_true, true_and, and_false, false_and, reduceIte, ite_true, ite_false, eq_self] at *)) <;> omega) _ _ ⟨(by ((try simp only [vp_in_iff, Int32.lt_iff_toInt_lt, Int32.le_iff_toInt_le, ← Int32.toInt_inj, Int32.reduceToInt, n_1, n_2, n_8, Int32.toNatClampNeg, Int64.lt_iff_toInt_lt, Int64.le_iff_toInt_le, ← Int64.toInt_inj, Int64.reduceToInt, Int32.toInt_toInt64, lg_cmp_ge, lg_cmp_le, lg_cmp_gt, lg_cmp_lt, lg_cmp_eq, Bool.false_eq_true, Bool.true_eq_false, reduceCtorEq, false_iff, true_iff, iff_true, iff_false, and_true, true_and, and_false, false_and, reduceIte, ite_true, ite_false, eq_self] at *)) <;> omega), trivial⟩ rfl
                · replace h22 := bI_t (b := true) (rfl) h22
                  refine wa_iconst (v := 1) (by decide) ?_
                  refine wa_iload rfl ?_
                  refine wa_ishl ?_
                  refine wa_top (fun v25 hv25 => ?_)
                  clear hv25
                  refine wa_goto o_X6_atomsAt_141 (by decide) ?_
                  refine wa_ior ?_
                  refine wa_top (fun v26 hv26 => ?_)
                  clear hv26
                  refine wa_istore_nD (lv' := [(3, .int v26), (8, .int (bI true)), (9, .int v20), (7, .int (gi σ 35 (v9).toNatClampNeg)), (6, .int (gi σ 37 (v7).toNatClampNeg)), (0, .ref 31), (2, .int a1), (4, .int v2), (5, .int l5)]) (i := 3) rfl (by decide) rfl ?_
                  refine wa_iinc (v := (1)) (lv' := fun y27 => [(5, .int y27), (3, .int v26), (8, .int (bI true)), (9, .int v20), (7, .int (gi σ 35 (v9).toNatClampNeg)), (6, .int (gi σ 37 (v7).toNatClampNeg)), (0, .ref 31), (2, .int a1), (4, .int v2)]) (by decide) rfl (by decide) (fun _ => rfl) (fun y27 hy27 => ?_)
                  have ty27 := i_addT hy27.symm
                  clear hy27
                  refine wa_goto o_X6_atomsAt_17 (by decide) ?_
                  refine wa_pick [6, 7, 1, 8, 0] rfl ?_
                  exact ih3 _ (by ((try simp only [vp_in_iff, Int32.lt_iff_toInt_lt, Int32.le_iff_toInt_le, ← Int32.toInt_inj, Int32.reduceToInt, n_1, n_2, n_8, Int32.toNatClampNeg, Int64.lt_iff_toInt_lt, Int64.le_iff_toInt_le, ← Int64.toInt_inj, Int64.reduceToInt, Int32.toInt_toInt64, lg_cmp_ge, lg_cmp_le, lg_cmp_gt, lg_cmp_lt, lg_cmp_eq, Bool.false_eq_true, Bool.true_eq_false, reduceCtorEq, false_iff, true_iff, iff_true, iff_false, and_true, true_and, and_false, false_and, reduceIte, ite_true, ite_false, eq_self] at *)) <;> omega) _ _ ⟨(by ((try simp only [vp_in_iff, Int32.lt_iff_toInt_lt, Int32.le_iff_toInt_le, ← Int32.toInt_inj, Int32.reduceToInt, n_1, n_2, n_8, Int32.toNatClampNeg, Int64.lt_iff_toInt_lt, Int64.le_iff_toInt_le, ← Int64.toInt_inj, Int64.reduceToInt, Int32.toInt_toInt64, lg_cmp_ge, lg_cmp_le, lg_cmp_gt, lg_cmp_lt, lg_cmp_eq, Bool.false_eq_true, Bool.true_eq_false, reduceCtorEq, false_iff, true_iff, iff_true, iff_false, and_true, true_and, and_false, false_and, reduceIte, ite_true, ite_false, eq_self] at *)) <;> omega), trivial⟩ rfl
              · refine wa_iload rfl ?_
                refine wa_if_lt o_X6_atomsAt_124 (by decide) (fun h28 => ?_) (fun h28 => ?_)
                · refine wa_iconst (v := 0) (by decide) ?_
                  refine wa_istoreD (lv' := [(8, .int (bI false)), (9, .int v20), (7, .int (gi σ 35 (v9).toNatClampNeg)), (6, .int (gi σ 37 (v7).toNatClampNeg)), (0, .ref 31), (2, .int a1), (3, .int l3), (4, .int v2), (5, .int l5)]) (by decide) rfl ?_
                  refine wa_iload_n (i := 3) rfl rfl ?_
                  refine wa_iload rfl ?_
                  refine wa_if_eq o_X6_atomsAt_140 (by decide) (fun h29 => ?_) (fun h29 => ?_)
                  · replace h29 := bI_f (b := false) (rfl) h29
                    refine wa_iconst (v := 0) (by decide) ?_
                    refine wa_ior ?_
                    refine wa_top (fun v30 hv30 => ?_)
                    clear hv30
                    refine wa_istore_nD (lv' := [(3, .int v30), (8, .int (bI false)), (9, .int v20), (7, .int (gi σ 35 (v9).toNatClampNeg)), (6, .int (gi σ 37 (v7).toNatClampNeg)), (0, .ref 31), (2, .int a1), (4, .int v2), (5, .int l5)]) (i := 3) rfl (by decide) rfl ?_
                    refine wa_iinc (v := (1)) (lv' := fun y31 => [(5, .int y31), (3, .int v30), (8, .int (bI false)), (9, .int v20), (7, .int (gi σ 35 (v9).toNatClampNeg)), (6, .int (gi σ 37 (v7).toNatClampNeg)), (0, .ref 31), (2, .int a1), (4, .int v2)]) (by decide) rfl (by decide) (fun _ => rfl) (fun y31 hy31 => ?_)
                    have ty31 := i_addT hy31.symm
                    clear hy31
                    refine wa_goto o_X6_atomsAt_17 (by decide) ?_
                    refine wa_pick [6, 7, 1, 8, 0] rfl ?_
                    exact ih3 _ (by ((try simp only [vp_in_iff, Int32.lt_iff_toInt_lt, Int32.le_iff_toInt_le, ← Int32.toInt_inj, Int32.reduceToInt, n_1, n_2, n_8, Int32.toNatClampNeg, Int64.lt_iff_toInt_lt, Int64.le_iff_toInt_le, ← Int64.toInt_inj, Int64.reduceToInt, Int32.toInt_toInt64, lg_cmp_ge, lg_cmp_le, lg_cmp_gt, lg_cmp_lt, lg_cmp_eq, Bool.false_eq_true, Bool.true_eq_false, reduceCtorEq, false_iff, true_iff, iff_true, iff_false, and_true, true_and, and_false, false_and, reduceIte, ite_true, ite_false, eq_self] at *)) <;> omega) _ _ ⟨(by ((try simp only [vp_in_iff, Int32.lt_iff_toInt_lt, Int32.le_iff_toInt_le, ← Int32.toInt_inj, Int32.reduceToInt, n_1, n_2, n_8, Int32.toNatClampNeg, Int64.lt_iff_toInt_lt, Int64.le_iff_toInt_le, ← Int64.toInt_inj, Int64.reduceToInt, Int32.toInt_toInt64, lg_cmp_ge, lg_cmp_le, lg_cmp_gt, lg_cmp_lt, lg_cmp_eq, Bool.false_eq_true, Bool.true_eq_false, reduceCtorEq, false_iff, true_iff, iff_true, iff_false, and_true, true_and, and_false, false_and, reduceIte, ite_true, ite_false, eq_self] at *)) <;> omega), trivial⟩ rfl
                  · replace h29 := bI_t (b := false) (rfl) h29
                    refine wa_iconst (v := 1) (by decide) ?_
                    refine wa_iload rfl ?_
                    refine wa_ishl ?_
                    refine wa_top (fun v32 hv32 => ?_)
                    clear hv32
                    refine wa_goto o_X6_atomsAt_141 (by decide) ?_
                    refine wa_ior ?_
                    refine wa_top (fun v33 hv33 => ?_)
                    clear hv33
                    refine wa_istore_nD (lv' := [(3, .int v33), (8, .int (bI false)), (9, .int v20), (7, .int (gi σ 35 (v9).toNatClampNeg)), (6, .int (gi σ 37 (v7).toNatClampNeg)), (0, .ref 31), (2, .int a1), (4, .int v2), (5, .int l5)]) (i := 3) rfl (by decide) rfl ?_
                    refine wa_iinc (v := (1)) (lv' := fun y34 => [(5, .int y34), (3, .int v33), (8, .int (bI false)), (9, .int v20), (7, .int (gi σ 35 (v9).toNatClampNeg)), (6, .int (gi σ 37 (v7).toNatClampNeg)), (0, .ref 31), (2, .int a1), (4, .int v2)]) (by decide) rfl (by decide) (fun _ => rfl) (fun y34 hy34 => ?_)
                    have ty34 := i_addT hy34.symm
                    clear hy34
                    refine wa_goto o_X6_atomsAt_17 (by decide) ?_
                    refine wa_pick [6, 7, 1, 8, 0] rfl ?_
                    exact ih3 _ (by ((try simp only [vp_in_iff, Int32.lt_iff_toInt_lt, Int32.le_iff_toInt_le, ← Int32.toInt_inj, Int32.reduceToInt, n_1, n_2, n_8, Int32.toNatClampNeg, Int64.lt_iff_toInt_lt, Int64.le_iff_toInt_le, ← Int64.toInt_inj, Int64.reduceToInt, Int32.toInt_toInt64, lg_cmp_ge, lg_cmp_le, lg_cmp_gt, lg_cmp_lt, lg_cmp_eq, Bool.false_eq_true, Bool.true_eq_false, reduceCtorEq, false_iff, true_iff, iff_true, iff_false, and_true, true_and, and_false, false_and, reduceIte, ite_true, ite_false, eq_self] at *)) <;> omega) _ _ ⟨(by ((try simp only [vp_in_iff, Int32.lt_iff_toInt_lt, Int32.le_iff_toInt_le, ← Int32.toInt_inj, Int32.reduceToInt, n_1, n_2, n_8, Int32.toNatClampNeg, Int64.lt_iff_toInt_lt, Int64.le_iff_toInt_le, ← Int64.toInt_inj, Int64.reduceToInt, Int32.toInt_toInt64, lg_cmp_ge, lg_cmp_le, lg_cmp_gt, lg_cmp_lt, lg_cmp_eq, Bool.false_eq_true, Bool.true_eq_false, reduceCtorEq, false_iff, true_iff, iff_true, iff_false, and_true, true_and, and_false, false_and, reduceIte, ite_true, ite_false, eq_self] at *)) <;> omega), trivial⟩ rfl
                · refine wa_iload rfl ?_
                  refine wa_bipush (v := 15) (by decide) ?_
                  refine wa_iand ?_
                  refine wa_top (fun v35 hv35 => ?_)
                  have tv35 := i_andT hv35
                  clear hv35
                  refine wa_iload rfl ?_
                  refine wa_isub ?_
                  refine wa_top (fun v36 hv36 => ?_)
                  have tv36 := i_subT hv36
                  clear hv36
                  refine wa_iload rfl ?_
                  refine wa_irem (by ((try simp only [vp_in_iff, Int32.lt_iff_toInt_lt, Int32.le_iff_toInt_le, ← Int32.toInt_inj, Int32.reduceToInt, n_1, n_2, n_8, Int32.toNatClampNeg, Int64.lt_iff_toInt_lt, Int64.le_iff_toInt_le, ← Int64.toInt_inj, Int64.reduceToInt, Int32.toInt_toInt64, lg_cmp_ge, lg_cmp_le, lg_cmp_gt, lg_cmp_lt, lg_cmp_eq, Bool.false_eq_true, Bool.true_eq_false, reduceCtorEq, false_iff, true_iff, iff_true, iff_false, and_true, true_and, and_false, false_and, reduceIte, ite_true, ite_false, eq_self] at *)) <;> omega) ?_
                  refine wa_top (fun v37 hv37 => ?_)
                  have tv37 := i_remT hv37
                  clear hv37
                  refine wa_if_ne o_X6_atomsAt_124 (by decide) (fun h38 => ?_) (fun h38 => ?_)
                  · refine wa_iconst (v := 0) (by decide) ?_
                    refine wa_istoreD (lv' := [(8, .int (bI false)), (9, .int v20), (7, .int (gi σ 35 (v9).toNatClampNeg)), (6, .int (gi σ 37 (v7).toNatClampNeg)), (0, .ref 31), (2, .int a1), (3, .int l3), (4, .int v2), (5, .int l5)]) (by decide) rfl ?_
                    refine wa_iload_n (i := 3) rfl rfl ?_
                    refine wa_iload rfl ?_
                    refine wa_if_eq o_X6_atomsAt_140 (by decide) (fun h39 => ?_) (fun h39 => ?_)
                    · replace h39 := bI_f (b := false) (rfl) h39
                      refine wa_iconst (v := 0) (by decide) ?_
                      refine wa_ior ?_
                      refine wa_top (fun v40 hv40 => ?_)
                      clear hv40
                      refine wa_istore_nD (lv' := [(3, .int v40), (8, .int (bI false)), (9, .int v20), (7, .int (gi σ 35 (v9).toNatClampNeg)), (6, .int (gi σ 37 (v7).toNatClampNeg)), (0, .ref 31), (2, .int a1), (4, .int v2), (5, .int l5)]) (i := 3) rfl (by decide) rfl ?_
                      refine wa_iinc (v := (1)) (lv' := fun y41 => [(5, .int y41), (3, .int v40), (8, .int (bI false)), (9, .int v20), (7, .int (gi σ 35 (v9).toNatClampNeg)), (6, .int (gi σ 37 (v7).toNatClampNeg)), (0, .ref 31), (2, .int a1), (4, .int v2)]) (by decide) rfl (by decide) (fun _ => rfl) (fun y41 hy41 => ?_)
                      have ty41 := i_addT hy41.symm
                      clear hy41
                      refine wa_goto o_X6_atomsAt_17 (by decide) ?_
                      refine wa_pick [6, 7, 1, 8, 0] rfl ?_
                      exact ih3 _ (by ((try simp only [vp_in_iff, Int32.lt_iff_toInt_lt, Int32.le_iff_toInt_le, ← Int32.toInt_inj, Int32.reduceToInt, n_1, n_2, n_8, Int32.toNatClampNeg, Int64.lt_iff_toInt_lt, Int64.le_iff_toInt_le, ← Int64.toInt_inj, Int64.reduceToInt, Int32.toInt_toInt64, lg_cmp_ge, lg_cmp_le, lg_cmp_gt, lg_cmp_lt, lg_cmp_eq, Bool.false_eq_true, Bool.true_eq_false, reduceCtorEq, false_iff, true_iff, iff_true, iff_false, and_true, true_and, and_false, false_and, reduceIte, ite_true, ite_false, eq_self] at *)) <;> omega) _ _ ⟨(by ((try simp only [vp_in_iff, Int32.lt_iff_toInt_lt, Int32.le_iff_toInt_le, ← Int32.toInt_inj, Int32.reduceToInt, n_1, n_2, n_8, Int32.toNatClampNeg, Int64.lt_iff_toInt_lt, Int64.le_iff_toInt_le, ← Int64.toInt_inj, Int64.reduceToInt, Int32.toInt_toInt64, lg_cmp_ge, lg_cmp_le, lg_cmp_gt, lg_cmp_lt, lg_cmp_eq, Bool.false_eq_true, Bool.true_eq_false, reduceCtorEq, false_iff, true_iff, iff_true, iff_false, and_true, true_and, and_false, false_and, reduceIte, ite_true, ite_false, eq_self] at *)) <;> omega), trivial⟩ rfl
                    · replace h39 := bI_t (b := false) (rfl) h39
                      refine wa_iconst (v := 1) (by decide) ?_
                      refine wa_iload rfl ?_
                      refine wa_ishl ?_
                      refine wa_top (fun v42 hv42 => ?_)
                      clear hv42
                      refine wa_goto o_X6_atomsAt_141 (by decide) ?_
                      refine wa_ior ?_
                      refine wa_top (fun v43 hv43 => ?_)
                      clear hv43
                      refine wa_istore_nD (lv' := [(3, .int v43), (8, .int (bI false)), (9, .int v20), (7, .int (gi σ 35 (v9).toNatClampNeg)), (6, .int (gi σ 37 (v7).toNatClampNeg)), (0, .ref 31), (2, .int a1), (4, .int v2), (5, .int l5)]) (i := 3) rfl (by decide) rfl ?_
                      refine wa_iinc (v := (1)) (lv' := fun y44 => [(5, .int y44), (3, .int v43), (8, .int (bI false)), (9, .int v20), (7, .int (gi σ 35 (v9).toNatClampNeg)), (6, .int (gi σ 37 (v7).toNatClampNeg)), (0, .ref 31), (2, .int a1), (4, .int v2)]) (by decide) rfl (by decide) (fun _ => rfl) (fun y44 hy44 => ?_)
                      have ty44 := i_addT hy44.symm
                      clear hy44
                      refine wa_goto o_X6_atomsAt_17 (by decide) ?_
                      refine wa_pick [6, 7, 1, 8, 0] rfl ?_
                      exact ih3 _ (by ((try simp only [vp_in_iff, Int32.lt_iff_toInt_lt, Int32.le_iff_toInt_le, ← Int32.toInt_inj, Int32.reduceToInt, n_1, n_2, n_8, Int32.toNatClampNeg, Int64.lt_iff_toInt_lt, Int64.le_iff_toInt_le, ← Int64.toInt_inj, Int64.reduceToInt, Int32.toInt_toInt64, lg_cmp_ge, lg_cmp_le, lg_cmp_gt, lg_cmp_lt, lg_cmp_eq, Bool.false_eq_true, Bool.true_eq_false, reduceCtorEq, false_iff, true_iff, iff_true, iff_false, and_true, true_and, and_false, false_and, reduceIte, ite_true, ite_false, eq_self] at *)) <;> omega) _ _ ⟨(by ((try simp only [vp_in_iff, Int32.lt_iff_toInt_lt, Int32.le_iff_toInt_le, ← Int32.toInt_inj, Int32.reduceToInt, n_1, n_2, n_8, Int32.toNatClampNeg, Int64.lt_iff_toInt_lt, Int64.le_iff_toInt_le, ← Int64.toInt_inj, Int64.reduceToInt, Int32.toInt_toInt64, lg_cmp_ge, lg_cmp_le, lg_cmp_gt, lg_cmp_lt, lg_cmp_eq, Bool.false_eq_true, Bool.true_eq_false, reduceCtorEq, false_iff, true_iff, iff_true, iff_false, and_true, true_and, and_false, false_and, reduceIte, ite_true, ite_false, eq_self] at *)) <;> omega), trivial⟩ rfl
                  · refine wa_iconst (v := 1) (by decide) ?_
                    refine wa_goto o_X6_atomsAt_125 (by decide) ?_
                    refine wa_istoreD (lv' := [(8, .int (bI true)), (9, .int v20), (7, .int (gi σ 35 (v9).toNatClampNeg)), (6, .int (gi σ 37 (v7).toNatClampNeg)), (0, .ref 31), (2, .int a1), (3, .int l3), (4, .int v2), (5, .int l5)]) (by decide) rfl ?_
                    refine wa_iload_n (i := 3) rfl rfl ?_
                    refine wa_iload rfl ?_
                    refine wa_if_eq o_X6_atomsAt_140 (by decide) (fun h45 => ?_) (fun h45 => ?_)
                    · replace h45 := bI_f (b := true) (rfl) h45
                      refine wa_iconst (v := 0) (by decide) ?_
                      refine wa_ior ?_
                      refine wa_top (fun v46 hv46 => ?_)
                      clear hv46
                      refine wa_istore_nD (lv' := [(3, .int v46), (8, .int (bI true)), (9, .int v20), (7, .int (gi σ 35 (v9).toNatClampNeg)), (6, .int (gi σ 37 (v7).toNatClampNeg)), (0, .ref 31), (2, .int a1), (4, .int v2), (5, .int l5)]) (i := 3) rfl (by decide) rfl ?_
                      refine wa_iinc (v := (1)) (lv' := fun y47 => [(5, .int y47), (3, .int v46), (8, .int (bI true)), (9, .int v20), (7, .int (gi σ 35 (v9).toNatClampNeg)), (6, .int (gi σ 37 (v7).toNatClampNeg)), (0, .ref 31), (2, .int a1), (4, .int v2)]) (by decide) rfl (by decide) (fun _ => rfl) (fun y47 hy47 => ?_)
                      have ty47 := i_addT hy47.symm
                      clear hy47
                      refine wa_goto o_X6_atomsAt_17 (by decide) ?_
                      refine wa_pick [6, 7, 1, 8, 0] rfl ?_
                      exact ih3 _ (by ((try simp only [vp_in_iff, Int32.lt_iff_toInt_lt, Int32.le_iff_toInt_le, ← Int32.toInt_inj, Int32.reduceToInt, n_1, n_2, n_8, Int32.toNatClampNeg, Int64.lt_iff_toInt_lt, Int64.le_iff_toInt_le, ← Int64.toInt_inj, Int64.reduceToInt, Int32.toInt_toInt64, lg_cmp_ge, lg_cmp_le, lg_cmp_gt, lg_cmp_lt, lg_cmp_eq, Bool.false_eq_true, Bool.true_eq_false, reduceCtorEq, false_iff, true_iff, iff_true, iff_false, and_true, true_and, and_false, false_and, reduceIte, ite_true, ite_false, eq_self] at *)) <;> omega) _ _ ⟨(by ((try simp only [vp_in_iff, Int32.lt_iff_toInt_lt, Int32.le_iff_toInt_le, ← Int32.toInt_inj, Int32.reduceToInt, n_1, n_2, n_8, Int32.toNatClampNeg, Int64.lt_iff_toInt_lt, Int64.le_iff_toInt_le, ← Int64.toInt_inj, Int64.reduceToInt, Int32.toInt_toInt64, lg_cmp_ge, lg_cmp_le, lg_cmp_gt, lg_cmp_lt, lg_cmp_eq, Bool.false_eq_true, Bool.true_eq_false, reduceCtorEq, false_iff, true_iff, iff_true, iff_false, and_true, true_and, and_false, false_and, reduceIte, ite_true, ite_false, eq_self] at *)) <;> omega), trivial⟩ rfl
                    · replace h45 := bI_t (b := true) (rfl) h45
                      refine wa_iconst (v := 1) (by decide) ?_
                      refine wa_iload rfl ?_
                      refine wa_ishl ?_
                      refine wa_top (fun v48 hv48 => ?_)
                      clear hv48
                      refine wa_goto o_X6_atomsAt_141 (by decide) ?_
                      refine wa_ior ?_
                      refine wa_top (fun v49 hv49 => ?_)
                      clear hv49
                      refine wa_istore_nD (lv' := [(3, .int v49), (8, .int (bI true)), (9, .int v20), (7, .int (gi σ 35 (v9).toNatClampNeg)), (6, .int (gi σ 37 (v7).toNatClampNeg)), (0, .ref 31), (2, .int a1), (4, .int v2), (5, .int l5)]) (i := 3) rfl (by decide) rfl ?_
                      refine wa_iinc (v := (1)) (lv' := fun y50 => [(5, .int y50), (3, .int v49), (8, .int (bI true)), (9, .int v20), (7, .int (gi σ 35 (v9).toNatClampNeg)), (6, .int (gi σ 37 (v7).toNatClampNeg)), (0, .ref 31), (2, .int a1), (4, .int v2)]) (by decide) rfl (by decide) (fun _ => rfl) (fun y50 hy50 => ?_)
                      have ty50 := i_addT hy50.symm
                      clear hy50
                      refine wa_goto o_X6_atomsAt_17 (by decide) ?_
                      refine wa_pick [6, 7, 1, 8, 0] rfl ?_
                      exact ih3 _ (by ((try simp only [vp_in_iff, Int32.lt_iff_toInt_lt, Int32.le_iff_toInt_le, ← Int32.toInt_inj, Int32.reduceToInt, n_1, n_2, n_8, Int32.toNatClampNeg, Int64.lt_iff_toInt_lt, Int64.le_iff_toInt_le, ← Int64.toInt_inj, Int64.reduceToInt, Int32.toInt_toInt64, lg_cmp_ge, lg_cmp_le, lg_cmp_gt, lg_cmp_lt, lg_cmp_eq, Bool.false_eq_true, Bool.true_eq_false, reduceCtorEq, false_iff, true_iff, iff_true, iff_false, and_true, true_and, and_false, false_and, reduceIte, ite_true, ite_false, eq_self] at *)) <;> omega) _ _ ⟨(by ((try simp only [vp_in_iff, Int32.lt_iff_toInt_lt, Int32.le_iff_toInt_le, ← Int32.toInt_inj, Int32.reduceToInt, n_1, n_2, n_8, Int32.toNatClampNeg, Int64.lt_iff_toInt_lt, Int64.le_iff_toInt_le, ← Int64.toInt_inj, Int64.reduceToInt, Int32.toInt_toInt64, lg_cmp_ge, lg_cmp_le, lg_cmp_gt, lg_cmp_lt, lg_cmp_eq, Bool.false_eq_true, Bool.true_eq_false, reduceCtorEq, false_iff, true_iff, iff_true, iff_false, and_true, true_and, and_false, false_and, reduceIte, ite_true, ite_false, eq_self] at *)) <;> omega), trivial⟩ rfl
          · refine wa_iconst (v := 1) (by decide) ?_
            refine wa_goto o_X6_atomsAt_72 (by decide) ?_
            refine wa_istoreD (lv' := [(8, .int (bI true)), (7, .int (gi σ 35 (v9).toNatClampNeg)), (6, .int (gi σ 37 (v7).toNatClampNeg)), (0, .ref 31), (2, .int a1), (3, .int l3), (4, .int v2), (5, .int l5)]) (by decide) rfl ?_
            refine wa_aload_n (i := 0) rfl rfl ?_
            refine wa_getr ck_6 fl_6_20 ly_31 rf_31_3 ?_
            refine wa_iload rfl ?_
            refine wa_zald ly_34 (by ((try simp only [vp_in_iff, Int32.lt_iff_toInt_lt, Int32.le_iff_toInt_le, ← Int32.toInt_inj, Int32.reduceToInt, n_1, n_2, n_8, Int32.toNatClampNeg, Int64.lt_iff_toInt_lt, Int64.le_iff_toInt_le, ← Int64.toInt_inj, Int64.reduceToInt, Int32.toInt_toInt64, lg_cmp_ge, lg_cmp_le, lg_cmp_gt, lg_cmp_lt, lg_cmp_eq, Bool.false_eq_true, Bool.true_eq_false, reduceCtorEq, false_iff, true_iff, iff_true, iff_false, and_true, true_and, and_false, false_and, reduceIte, ite_true, ite_false, eq_self] at *)) <;> omega) ?_
            refine wa_if_ne o_X6_atomsAt_127 (by decide) (fun h51 => ?_) (fun h51 => ?_)
            · replace h51 := bI_t (b := (gb σ 34 (l5).toNatClampNeg)) (rfl) h51
              refine wa_iload_n (i := 3) rfl rfl ?_
              refine wa_iload rfl ?_
              refine wa_if_eq o_X6_atomsAt_140 (by decide) (fun h52 => ?_) (fun h52 => ?_)
              · replace h52 := bI_f (b := true) (rfl) h52
                refine wa_iconst (v := 0) (by decide) ?_
                refine wa_ior ?_
                refine wa_top (fun v53 hv53 => ?_)
                clear hv53
                refine wa_istore_nD (lv' := [(3, .int v53), (8, .int (bI true)), (7, .int (gi σ 35 (v9).toNatClampNeg)), (6, .int (gi σ 37 (v7).toNatClampNeg)), (0, .ref 31), (2, .int a1), (4, .int v2), (5, .int l5)]) (i := 3) rfl (by decide) rfl ?_
                refine wa_iinc (v := (1)) (lv' := fun y54 => [(5, .int y54), (3, .int v53), (8, .int (bI true)), (7, .int (gi σ 35 (v9).toNatClampNeg)), (6, .int (gi σ 37 (v7).toNatClampNeg)), (0, .ref 31), (2, .int a1), (4, .int v2)]) (by decide) rfl (by decide) (fun _ => rfl) (fun y54 hy54 => ?_)
                have ty54 := i_addT hy54.symm
                clear hy54
                refine wa_goto o_X6_atomsAt_17 (by decide) ?_
                refine wa_pick [5, 6, 1, 7, 0] rfl ?_
                exact ih3 _ (by ((try simp only [vp_in_iff, Int32.lt_iff_toInt_lt, Int32.le_iff_toInt_le, ← Int32.toInt_inj, Int32.reduceToInt, n_1, n_2, n_8, Int32.toNatClampNeg, Int64.lt_iff_toInt_lt, Int64.le_iff_toInt_le, ← Int64.toInt_inj, Int64.reduceToInt, Int32.toInt_toInt64, lg_cmp_ge, lg_cmp_le, lg_cmp_gt, lg_cmp_lt, lg_cmp_eq, Bool.false_eq_true, Bool.true_eq_false, reduceCtorEq, false_iff, true_iff, iff_true, iff_false, and_true, true_and, and_false, false_and, reduceIte, ite_true, ite_false, eq_self] at *)) <;> omega) _ _ ⟨(by ((try simp only [vp_in_iff, Int32.lt_iff_toInt_lt, Int32.le_iff_toInt_le, ← Int32.toInt_inj, Int32.reduceToInt, n_1, n_2, n_8, Int32.toNatClampNeg, Int64.lt_iff_toInt_lt, Int64.le_iff_toInt_le, ← Int64.toInt_inj, Int64.reduceToInt, Int32.toInt_toInt64, lg_cmp_ge, lg_cmp_le, lg_cmp_gt, lg_cmp_lt, lg_cmp_eq, Bool.false_eq_true, Bool.true_eq_false, reduceCtorEq, false_iff, true_iff, iff_true, iff_false, and_true, true_and, and_false, false_and, reduceIte, ite_true, ite_false, eq_self] at *)) <;> omega), trivial⟩ rfl
              · replace h52 := bI_t (b := true) (rfl) h52
                refine wa_iconst (v := 1) (by decide) ?_
                refine wa_iload rfl ?_
                refine wa_ishl ?_
                refine wa_top (fun v55 hv55 => ?_)
                clear hv55
                refine wa_goto o_X6_atomsAt_141 (by decide) ?_
                refine wa_ior ?_
                refine wa_top (fun v56 hv56 => ?_)
                clear hv56
                refine wa_istore_nD (lv' := [(3, .int v56), (8, .int (bI true)), (7, .int (gi σ 35 (v9).toNatClampNeg)), (6, .int (gi σ 37 (v7).toNatClampNeg)), (0, .ref 31), (2, .int a1), (4, .int v2), (5, .int l5)]) (i := 3) rfl (by decide) rfl ?_
                refine wa_iinc (v := (1)) (lv' := fun y57 => [(5, .int y57), (3, .int v56), (8, .int (bI true)), (7, .int (gi σ 35 (v9).toNatClampNeg)), (6, .int (gi σ 37 (v7).toNatClampNeg)), (0, .ref 31), (2, .int a1), (4, .int v2)]) (by decide) rfl (by decide) (fun _ => rfl) (fun y57 hy57 => ?_)
                have ty57 := i_addT hy57.symm
                clear hy57
                refine wa_goto o_X6_atomsAt_17 (by decide) ?_
                refine wa_pick [5, 6, 1, 7, 0] rfl ?_
                exact ih3 _ (by ((try simp only [vp_in_iff, Int32.lt_iff_toInt_lt, Int32.le_iff_toInt_le, ← Int32.toInt_inj, Int32.reduceToInt, n_1, n_2, n_8, Int32.toNatClampNeg, Int64.lt_iff_toInt_lt, Int64.le_iff_toInt_le, ← Int64.toInt_inj, Int64.reduceToInt, Int32.toInt_toInt64, lg_cmp_ge, lg_cmp_le, lg_cmp_gt, lg_cmp_lt, lg_cmp_eq, Bool.false_eq_true, Bool.true_eq_false, reduceCtorEq, false_iff, true_iff, iff_true, iff_false, and_true, true_and, and_false, false_and, reduceIte, ite_true, ite_false, eq_self] at *)) <;> omega) _ _ ⟨(by ((try simp only [vp_in_iff, Int32.lt_iff_toInt_lt, Int32.le_iff_toInt_le, ← Int32.toInt_inj, Int32.reduceToInt, n_1, n_2, n_8, Int32.toNatClampNeg, Int64.lt_iff_toInt_lt, Int64.le_iff_toInt_le, ← Int64.toInt_inj, Int64.reduceToInt, Int32.toInt_toInt64, lg_cmp_ge, lg_cmp_le, lg_cmp_gt, lg_cmp_lt, lg_cmp_eq, Bool.false_eq_true, Bool.true_eq_false, reduceCtorEq, false_iff, true_iff, iff_true, iff_false, and_true, true_and, and_false, false_and, reduceIte, ite_true, ite_false, eq_self] at *)) <;> omega), trivial⟩ rfl
            · replace h51 := bI_f (b := (gb σ 34 (l5).toNatClampNeg)) (rfl) h51
              refine wa_iconst (v := 1) (by decide) ?_
              refine wa_iload rfl ?_
              refine wa_iconst (v := 4) (by decide) ?_
              refine wa_ishr ?_
              refine wa_top (fun v58 hv58 => ?_)
              clear hv58
              refine wa_maxI zs (allW_in (kT_6 _ (List.mem_of_getElem? (i := 104) rfl)) rfl) (Nat.le_of_ble_eq_true rfl) ?_
              refine wa_top (fun v59 hv59 => ?_)
              have tv59 := i_maxI hv59
              clear hv59
              refine wa_istoreD (lv' := [(9, .int v59), (8, .int (bI true)), (7, .int (gi σ 35 (v9).toNatClampNeg)), (6, .int (gi σ 37 (v7).toNatClampNeg)), (0, .ref 31), (2, .int a1), (3, .int l3), (4, .int v2), (5, .int l5)]) (by decide) rfl ?_
              refine wa_iload rfl ?_
              refine wa_bipush (v := (-2)) (by decide) ?_
              refine wa_icmp_eq o_X6_atomsAt_120 (by decide) (fun h60 => ?_) (fun h60 => ?_)
              · refine wa_iconst (v := 1) (by decide) ?_
                refine wa_goto o_X6_atomsAt_125 (by decide) ?_
                refine wa_istoreD (lv' := [(8, .int (bI true)), (9, .int v59), (7, .int (gi σ 35 (v9).toNatClampNeg)), (6, .int (gi σ 37 (v7).toNatClampNeg)), (0, .ref 31), (2, .int a1), (3, .int l3), (4, .int v2), (5, .int l5)]) (by decide) rfl ?_
                refine wa_iload_n (i := 3) rfl rfl ?_
                refine wa_iload rfl ?_
                refine wa_if_eq o_X6_atomsAt_140 (by decide) (fun h61 => ?_) (fun h61 => ?_)
                · replace h61 := bI_f (b := true) (rfl) h61
                  refine wa_iconst (v := 0) (by decide) ?_
                  refine wa_ior ?_
                  refine wa_top (fun v62 hv62 => ?_)
                  clear hv62
                  refine wa_istore_nD (lv' := [(3, .int v62), (8, .int (bI true)), (9, .int v59), (7, .int (gi σ 35 (v9).toNatClampNeg)), (6, .int (gi σ 37 (v7).toNatClampNeg)), (0, .ref 31), (2, .int a1), (4, .int v2), (5, .int l5)]) (i := 3) rfl (by decide) rfl ?_
                  refine wa_iinc (v := (1)) (lv' := fun y63 => [(5, .int y63), (3, .int v62), (8, .int (bI true)), (9, .int v59), (7, .int (gi σ 35 (v9).toNatClampNeg)), (6, .int (gi σ 37 (v7).toNatClampNeg)), (0, .ref 31), (2, .int a1), (4, .int v2)]) (by decide) rfl (by decide) (fun _ => rfl) (fun y63 hy63 => ?_)
                  have ty63 := i_addT hy63.symm
                  clear hy63
                  refine wa_goto o_X6_atomsAt_17 (by decide) ?_
                  refine wa_pick [6, 7, 1, 8, 0] rfl ?_
                  exact ih3 _ (by ((try simp only [vp_in_iff, Int32.lt_iff_toInt_lt, Int32.le_iff_toInt_le, ← Int32.toInt_inj, Int32.reduceToInt, n_1, n_2, n_8, Int32.toNatClampNeg, Int64.lt_iff_toInt_lt, Int64.le_iff_toInt_le, ← Int64.toInt_inj, Int64.reduceToInt, Int32.toInt_toInt64, lg_cmp_ge, lg_cmp_le, lg_cmp_gt, lg_cmp_lt, lg_cmp_eq, Bool.false_eq_true, Bool.true_eq_false, reduceCtorEq, false_iff, true_iff, iff_true, iff_false, and_true, true_and, and_false, false_and, reduceIte, ite_true, ite_false, eq_self] at *)) <;> omega) _ _ ⟨(by ((try simp only [vp_in_iff, Int32.lt_iff_toInt_lt, Int32.le_iff_toInt_le, ← Int32.toInt_inj, Int32.reduceToInt, n_1, n_2, n_8, Int32.toNatClampNeg, Int64.lt_iff_toInt_lt, Int64.le_iff_toInt_le, ← Int64.toInt_inj, Int64.reduceToInt, Int32.toInt_toInt64, lg_cmp_ge, lg_cmp_le, lg_cmp_gt, lg_cmp_lt, lg_cmp_eq, Bool.false_eq_true, Bool.true_eq_false, reduceCtorEq, false_iff, true_iff, iff_true, iff_false, and_true, true_and, and_false, false_and, reduceIte, ite_true, ite_false, eq_self] at *)) <;> omega), trivial⟩ rfl
                · replace h61 := bI_t (b := true) (rfl) h61
                  refine wa_iconst (v := 1) (by decide) ?_
                  refine wa_iload rfl ?_
                  refine wa_ishl ?_
                  refine wa_top (fun v64 hv64 => ?_)
                  clear hv64
                  refine wa_goto o_X6_atomsAt_141 (by decide) ?_
                  refine wa_ior ?_
                  refine wa_top (fun v65 hv65 => ?_)
                  clear hv65
                  refine wa_istore_nD (lv' := [(3, .int v65), (8, .int (bI true)), (9, .int v59), (7, .int (gi σ 35 (v9).toNatClampNeg)), (6, .int (gi σ 37 (v7).toNatClampNeg)), (0, .ref 31), (2, .int a1), (4, .int v2), (5, .int l5)]) (i := 3) rfl (by decide) rfl ?_
                  refine wa_iinc (v := (1)) (lv' := fun y66 => [(5, .int y66), (3, .int v65), (8, .int (bI true)), (9, .int v59), (7, .int (gi σ 35 (v9).toNatClampNeg)), (6, .int (gi σ 37 (v7).toNatClampNeg)), (0, .ref 31), (2, .int a1), (4, .int v2)]) (by decide) rfl (by decide) (fun _ => rfl) (fun y66 hy66 => ?_)
                  have ty66 := i_addT hy66.symm
                  clear hy66
                  refine wa_goto o_X6_atomsAt_17 (by decide) ?_
                  refine wa_pick [6, 7, 1, 8, 0] rfl ?_
                  exact ih3 _ (by ((try simp only [vp_in_iff, Int32.lt_iff_toInt_lt, Int32.le_iff_toInt_le, ← Int32.toInt_inj, Int32.reduceToInt, n_1, n_2, n_8, Int32.toNatClampNeg, Int64.lt_iff_toInt_lt, Int64.le_iff_toInt_le, ← Int64.toInt_inj, Int64.reduceToInt, Int32.toInt_toInt64, lg_cmp_ge, lg_cmp_le, lg_cmp_gt, lg_cmp_lt, lg_cmp_eq, Bool.false_eq_true, Bool.true_eq_false, reduceCtorEq, false_iff, true_iff, iff_true, iff_false, and_true, true_and, and_false, false_and, reduceIte, ite_true, ite_false, eq_self] at *)) <;> omega) _ _ ⟨(by ((try simp only [vp_in_iff, Int32.lt_iff_toInt_lt, Int32.le_iff_toInt_le, ← Int32.toInt_inj, Int32.reduceToInt, n_1, n_2, n_8, Int32.toNatClampNeg, Int64.lt_iff_toInt_lt, Int64.le_iff_toInt_le, ← Int64.toInt_inj, Int64.reduceToInt, Int32.toInt_toInt64, lg_cmp_ge, lg_cmp_le, lg_cmp_gt, lg_cmp_lt, lg_cmp_eq, Bool.false_eq_true, Bool.true_eq_false, reduceCtorEq, false_iff, true_iff, iff_true, iff_false, and_true, true_and, and_false, false_and, reduceIte, ite_true, ite_false, eq_self] at *)) <;> omega), trivial⟩ rfl
              · refine wa_iload rfl ?_
                refine wa_if_lt o_X6_atomsAt_124 (by decide) (fun h67 => ?_) (fun h67 => ?_)
                · refine wa_iconst (v := 0) (by decide) ?_
                  refine wa_istoreD (lv' := [(8, .int (bI false)), (9, .int v59), (7, .int (gi σ 35 (v9).toNatClampNeg)), (6, .int (gi σ 37 (v7).toNatClampNeg)), (0, .ref 31), (2, .int a1), (3, .int l3), (4, .int v2), (5, .int l5)]) (by decide) rfl ?_
                  refine wa_iload_n (i := 3) rfl rfl ?_
                  refine wa_iload rfl ?_
                  refine wa_if_eq o_X6_atomsAt_140 (by decide) (fun h68 => ?_) (fun h68 => ?_)
                  · replace h68 := bI_f (b := false) (rfl) h68
                    refine wa_iconst (v := 0) (by decide) ?_
                    refine wa_ior ?_
                    refine wa_top (fun v69 hv69 => ?_)
                    clear hv69
                    refine wa_istore_nD (lv' := [(3, .int v69), (8, .int (bI false)), (9, .int v59), (7, .int (gi σ 35 (v9).toNatClampNeg)), (6, .int (gi σ 37 (v7).toNatClampNeg)), (0, .ref 31), (2, .int a1), (4, .int v2), (5, .int l5)]) (i := 3) rfl (by decide) rfl ?_
                    refine wa_iinc (v := (1)) (lv' := fun y70 => [(5, .int y70), (3, .int v69), (8, .int (bI false)), (9, .int v59), (7, .int (gi σ 35 (v9).toNatClampNeg)), (6, .int (gi σ 37 (v7).toNatClampNeg)), (0, .ref 31), (2, .int a1), (4, .int v2)]) (by decide) rfl (by decide) (fun _ => rfl) (fun y70 hy70 => ?_)
                    have ty70 := i_addT hy70.symm
                    clear hy70
                    refine wa_goto o_X6_atomsAt_17 (by decide) ?_
                    refine wa_pick [6, 7, 1, 8, 0] rfl ?_
                    exact ih3 _ (by ((try simp only [vp_in_iff, Int32.lt_iff_toInt_lt, Int32.le_iff_toInt_le, ← Int32.toInt_inj, Int32.reduceToInt, n_1, n_2, n_8, Int32.toNatClampNeg, Int64.lt_iff_toInt_lt, Int64.le_iff_toInt_le, ← Int64.toInt_inj, Int64.reduceToInt, Int32.toInt_toInt64, lg_cmp_ge, lg_cmp_le, lg_cmp_gt, lg_cmp_lt, lg_cmp_eq, Bool.false_eq_true, Bool.true_eq_false, reduceCtorEq, false_iff, true_iff, iff_true, iff_false, and_true, true_and, and_false, false_and, reduceIte, ite_true, ite_false, eq_self] at *)) <;> omega) _ _ ⟨(by ((try simp only [vp_in_iff, Int32.lt_iff_toInt_lt, Int32.le_iff_toInt_le, ← Int32.toInt_inj, Int32.reduceToInt, n_1, n_2, n_8, Int32.toNatClampNeg, Int64.lt_iff_toInt_lt, Int64.le_iff_toInt_le, ← Int64.toInt_inj, Int64.reduceToInt, Int32.toInt_toInt64, lg_cmp_ge, lg_cmp_le, lg_cmp_gt, lg_cmp_lt, lg_cmp_eq, Bool.false_eq_true, Bool.true_eq_false, reduceCtorEq, false_iff, true_iff, iff_true, iff_false, and_true, true_and, and_false, false_and, reduceIte, ite_true, ite_false, eq_self] at *)) <;> omega), trivial⟩ rfl
                  · replace h68 := bI_t (b := false) (rfl) h68
                    refine wa_iconst (v := 1) (by decide) ?_
                    refine wa_iload rfl ?_
                    refine wa_ishl ?_
                    refine wa_top (fun v71 hv71 => ?_)
                    clear hv71
                    refine wa_goto o_X6_atomsAt_141 (by decide) ?_
                    refine wa_ior ?_
                    refine wa_top (fun v72 hv72 => ?_)
                    clear hv72
                    refine wa_istore_nD (lv' := [(3, .int v72), (8, .int (bI false)), (9, .int v59), (7, .int (gi σ 35 (v9).toNatClampNeg)), (6, .int (gi σ 37 (v7).toNatClampNeg)), (0, .ref 31), (2, .int a1), (4, .int v2), (5, .int l5)]) (i := 3) rfl (by decide) rfl ?_
                    refine wa_iinc (v := (1)) (lv' := fun y73 => [(5, .int y73), (3, .int v72), (8, .int (bI false)), (9, .int v59), (7, .int (gi σ 35 (v9).toNatClampNeg)), (6, .int (gi σ 37 (v7).toNatClampNeg)), (0, .ref 31), (2, .int a1), (4, .int v2)]) (by decide) rfl (by decide) (fun _ => rfl) (fun y73 hy73 => ?_)
                    have ty73 := i_addT hy73.symm
                    clear hy73
                    refine wa_goto o_X6_atomsAt_17 (by decide) ?_
                    refine wa_pick [6, 7, 1, 8, 0] rfl ?_
                    exact ih3 _ (by ((try simp only [vp_in_iff, Int32.lt_iff_toInt_lt, Int32.le_iff_toInt_le, ← Int32.toInt_inj, Int32.reduceToInt, n_1, n_2, n_8, Int32.toNatClampNeg, Int64.lt_iff_toInt_lt, Int64.le_iff_toInt_le, ← Int64.toInt_inj, Int64.reduceToInt, Int32.toInt_toInt64, lg_cmp_ge, lg_cmp_le, lg_cmp_gt, lg_cmp_lt, lg_cmp_eq, Bool.false_eq_true, Bool.true_eq_false, reduceCtorEq, false_iff, true_iff, iff_true, iff_false, and_true, true_and, and_false, false_and, reduceIte, ite_true, ite_false, eq_self] at *)) <;> omega) _ _ ⟨(by ((try simp only [vp_in_iff, Int32.lt_iff_toInt_lt, Int32.le_iff_toInt_le, ← Int32.toInt_inj, Int32.reduceToInt, n_1, n_2, n_8, Int32.toNatClampNeg, Int64.lt_iff_toInt_lt, Int64.le_iff_toInt_le, ← Int64.toInt_inj, Int64.reduceToInt, Int32.toInt_toInt64, lg_cmp_ge, lg_cmp_le, lg_cmp_gt, lg_cmp_lt, lg_cmp_eq, Bool.false_eq_true, Bool.true_eq_false, reduceCtorEq, false_iff, true_iff, iff_true, iff_false, and_true, true_and, and_false, false_and, reduceIte, ite_true, ite_false, eq_self] at *)) <;> omega), trivial⟩ rfl
                · refine wa_iload rfl ?_
                  refine wa_bipush (v := 15) (by decide) ?_
                  refine wa_iand ?_
                  refine wa_top (fun v74 hv74 => ?_)
                  have tv74 := i_andT hv74
                  clear hv74
                  refine wa_iload rfl ?_
                  refine wa_isub ?_
                  refine wa_top (fun v75 hv75 => ?_)
                  have tv75 := i_subT hv75
                  clear hv75
                  refine wa_iload rfl ?_
                  refine wa_irem (by ((try simp only [vp_in_iff, Int32.lt_iff_toInt_lt, Int32.le_iff_toInt_le, ← Int32.toInt_inj, Int32.reduceToInt, n_1, n_2, n_8, Int32.toNatClampNeg, Int64.lt_iff_toInt_lt, Int64.le_iff_toInt_le, ← Int64.toInt_inj, Int64.reduceToInt, Int32.toInt_toInt64, lg_cmp_ge, lg_cmp_le, lg_cmp_gt, lg_cmp_lt, lg_cmp_eq, Bool.false_eq_true, Bool.true_eq_false, reduceCtorEq, false_iff, true_iff, iff_true, iff_false, and_true, true_and, and_false, false_and, reduceIte, ite_true, ite_false, eq_self] at *)) <;> omega) ?_
                  refine wa_top (fun v76 hv76 => ?_)
                  have tv76 := i_remT hv76
                  clear hv76
                  refine wa_if_ne o_X6_atomsAt_124 (by decide) (fun h77 => ?_) (fun h77 => ?_)
                  · refine wa_iconst (v := 0) (by decide) ?_
                    refine wa_istoreD (lv' := [(8, .int (bI false)), (9, .int v59), (7, .int (gi σ 35 (v9).toNatClampNeg)), (6, .int (gi σ 37 (v7).toNatClampNeg)), (0, .ref 31), (2, .int a1), (3, .int l3), (4, .int v2), (5, .int l5)]) (by decide) rfl ?_
                    refine wa_iload_n (i := 3) rfl rfl ?_
                    refine wa_iload rfl ?_
                    refine wa_if_eq o_X6_atomsAt_140 (by decide) (fun h78 => ?_) (fun h78 => ?_)
                    · replace h78 := bI_f (b := false) (rfl) h78
                      refine wa_iconst (v := 0) (by decide) ?_
                      refine wa_ior ?_
                      refine wa_top (fun v79 hv79 => ?_)
                      clear hv79
                      refine wa_istore_nD (lv' := [(3, .int v79), (8, .int (bI false)), (9, .int v59), (7, .int (gi σ 35 (v9).toNatClampNeg)), (6, .int (gi σ 37 (v7).toNatClampNeg)), (0, .ref 31), (2, .int a1), (4, .int v2), (5, .int l5)]) (i := 3) rfl (by decide) rfl ?_
                      refine wa_iinc (v := (1)) (lv' := fun y80 => [(5, .int y80), (3, .int v79), (8, .int (bI false)), (9, .int v59), (7, .int (gi σ 35 (v9).toNatClampNeg)), (6, .int (gi σ 37 (v7).toNatClampNeg)), (0, .ref 31), (2, .int a1), (4, .int v2)]) (by decide) rfl (by decide) (fun _ => rfl) (fun y80 hy80 => ?_)
                      have ty80 := i_addT hy80.symm
                      clear hy80
                      refine wa_goto o_X6_atomsAt_17 (by decide) ?_
                      refine wa_pick [6, 7, 1, 8, 0] rfl ?_
                      exact ih3 _ (by ((try simp only [vp_in_iff, Int32.lt_iff_toInt_lt, Int32.le_iff_toInt_le, ← Int32.toInt_inj, Int32.reduceToInt, n_1, n_2, n_8, Int32.toNatClampNeg, Int64.lt_iff_toInt_lt, Int64.le_iff_toInt_le, ← Int64.toInt_inj, Int64.reduceToInt, Int32.toInt_toInt64, lg_cmp_ge, lg_cmp_le, lg_cmp_gt, lg_cmp_lt, lg_cmp_eq, Bool.false_eq_true, Bool.true_eq_false, reduceCtorEq, false_iff, true_iff, iff_true, iff_false, and_true, true_and, and_false, false_and, reduceIte, ite_true, ite_false, eq_self] at *)) <;> omega) _ _ ⟨(by ((try simp only [vp_in_iff, Int32.lt_iff_toInt_lt, Int32.le_iff_toInt_le, ← Int32.toInt_inj, Int32.reduceToInt, n_1, n_2, n_8, Int32.toNatClampNeg, Int64.lt_iff_toInt_lt, Int64.le_iff_toInt_le, ← Int64.toInt_inj, Int64.reduceToInt, Int32.toInt_toInt64, lg_cmp_ge, lg_cmp_le, lg_cmp_gt, lg_cmp_lt, lg_cmp_eq, Bool.false_eq_true, Bool.true_eq_false, reduceCtorEq, false_iff, true_iff, iff_true, iff_false, and_true, true_and, and_false, false_and, reduceIte, ite_true, ite_false, eq_self] at *)) <;> omega), trivial⟩ rfl
                    · replace h78 := bI_t (b := false) (rfl) h78
                      refine wa_iconst (v := 1) (by decide) ?_
                      refine wa_iload rfl ?_
                      refine wa_ishl ?_
                      refine wa_top (fun v81 hv81 => ?_)
                      clear hv81
                      refine wa_goto o_X6_atomsAt_141 (by decide) ?_
                      refine wa_ior ?_
                      refine wa_top (fun v82 hv82 => ?_)
                      clear hv82
                      refine wa_istore_nD (lv' := [(3, .int v82), (8, .int (bI false)), (9, .int v59), (7, .int (gi σ 35 (v9).toNatClampNeg)), (6, .int (gi σ 37 (v7).toNatClampNeg)), (0, .ref 31), (2, .int a1), (4, .int v2), (5, .int l5)]) (i := 3) rfl (by decide) rfl ?_
                      refine wa_iinc (v := (1)) (lv' := fun y83 => [(5, .int y83), (3, .int v82), (8, .int (bI false)), (9, .int v59), (7, .int (gi σ 35 (v9).toNatClampNeg)), (6, .int (gi σ 37 (v7).toNatClampNeg)), (0, .ref 31), (2, .int a1), (4, .int v2)]) (by decide) rfl (by decide) (fun _ => rfl) (fun y83 hy83 => ?_)
                      have ty83 := i_addT hy83.symm
                      clear hy83
                      refine wa_goto o_X6_atomsAt_17 (by decide) ?_
                      refine wa_pick [6, 7, 1, 8, 0] rfl ?_
                      exact ih3 _ (by ((try simp only [vp_in_iff, Int32.lt_iff_toInt_lt, Int32.le_iff_toInt_le, ← Int32.toInt_inj, Int32.reduceToInt, n_1, n_2, n_8, Int32.toNatClampNeg, Int64.lt_iff_toInt_lt, Int64.le_iff_toInt_le, ← Int64.toInt_inj, Int64.reduceToInt, Int32.toInt_toInt64, lg_cmp_ge, lg_cmp_le, lg_cmp_gt, lg_cmp_lt, lg_cmp_eq, Bool.false_eq_true, Bool.true_eq_false, reduceCtorEq, false_iff, true_iff, iff_true, iff_false, and_true, true_and, and_false, false_and, reduceIte, ite_true, ite_false, eq_self] at *)) <;> omega) _ _ ⟨(by ((try simp only [vp_in_iff, Int32.lt_iff_toInt_lt, Int32.le_iff_toInt_le, ← Int32.toInt_inj, Int32.reduceToInt, n_1, n_2, n_8, Int32.toNatClampNeg, Int64.lt_iff_toInt_lt, Int64.le_iff_toInt_le, ← Int64.toInt_inj, Int64.reduceToInt, Int32.toInt_toInt64, lg_cmp_ge, lg_cmp_le, lg_cmp_gt, lg_cmp_lt, lg_cmp_eq, Bool.false_eq_true, Bool.true_eq_false, reduceCtorEq, false_iff, true_iff, iff_true, iff_false, and_true, true_and, and_false, false_and, reduceIte, ite_true, ite_false, eq_self] at *)) <;> omega), trivial⟩ rfl
                  · refine wa_iconst (v := 1) (by decide) ?_
                    refine wa_goto o_X6_atomsAt_125 (by decide) ?_
                    refine wa_istoreD (lv' := [(8, .int (bI true)), (9, .int v59), (7, .int (gi σ 35 (v9).toNatClampNeg)), (6, .int (gi σ 37 (v7).toNatClampNeg)), (0, .ref 31), (2, .int a1), (3, .int l3), (4, .int v2), (5, .int l5)]) (by decide) rfl ?_
                    refine wa_iload_n (i := 3) rfl rfl ?_
                    refine wa_iload rfl ?_
                    refine wa_if_eq o_X6_atomsAt_140 (by decide) (fun h84 => ?_) (fun h84 => ?_)
                    · replace h84 := bI_f (b := true) (rfl) h84
                      refine wa_iconst (v := 0) (by decide) ?_
                      refine wa_ior ?_
                      refine wa_top (fun v85 hv85 => ?_)
                      clear hv85
                      refine wa_istore_nD (lv' := [(3, .int v85), (8, .int (bI true)), (9, .int v59), (7, .int (gi σ 35 (v9).toNatClampNeg)), (6, .int (gi σ 37 (v7).toNatClampNeg)), (0, .ref 31), (2, .int a1), (4, .int v2), (5, .int l5)]) (i := 3) rfl (by decide) rfl ?_
                      refine wa_iinc (v := (1)) (lv' := fun y86 => [(5, .int y86), (3, .int v85), (8, .int (bI true)), (9, .int v59), (7, .int (gi σ 35 (v9).toNatClampNeg)), (6, .int (gi σ 37 (v7).toNatClampNeg)), (0, .ref 31), (2, .int a1), (4, .int v2)]) (by decide) rfl (by decide) (fun _ => rfl) (fun y86 hy86 => ?_)
                      have ty86 := i_addT hy86.symm
                      clear hy86
                      refine wa_goto o_X6_atomsAt_17 (by decide) ?_
                      refine wa_pick [6, 7, 1, 8, 0] rfl ?_
                      exact ih3 _ (by ((try simp only [vp_in_iff, Int32.lt_iff_toInt_lt, Int32.le_iff_toInt_le, ← Int32.toInt_inj, Int32.reduceToInt, n_1, n_2, n_8, Int32.toNatClampNeg, Int64.lt_iff_toInt_lt, Int64.le_iff_toInt_le, ← Int64.toInt_inj, Int64.reduceToInt, Int32.toInt_toInt64, lg_cmp_ge, lg_cmp_le, lg_cmp_gt, lg_cmp_lt, lg_cmp_eq, Bool.false_eq_true, Bool.true_eq_false, reduceCtorEq, false_iff, true_iff, iff_true, iff_false, and_true, true_and, and_false, false_and, reduceIte, ite_true, ite_false, eq_self] at *)) <;> omega) _ _ ⟨(by ((try simp only [vp_in_iff, Int32.lt_iff_toInt_lt, Int32.le_iff_toInt_le, ← Int32.toInt_inj, Int32.reduceToInt, n_1, n_2, n_8, Int32.toNatClampNeg, Int64.lt_iff_toInt_lt, Int64.le_iff_toInt_le, ← Int64.toInt_inj, Int64.reduceToInt, Int32.toInt_toInt64, lg_cmp_ge, lg_cmp_le, lg_cmp_gt, lg_cmp_lt, lg_cmp_eq, Bool.false_eq_true, Bool.true_eq_false, reduceCtorEq, false_iff, true_iff, iff_true, iff_false, and_true, true_and, and_false, false_and, reduceIte, ite_true, ite_false, eq_self] at *)) <;> omega), trivial⟩ rfl
                    · replace h84 := bI_t (b := true) (rfl) h84
                      refine wa_iconst (v := 1) (by decide) ?_
                      refine wa_iload rfl ?_
                      refine wa_ishl ?_
                      refine wa_top (fun v87 hv87 => ?_)
                      clear hv87
                      refine wa_goto o_X6_atomsAt_141 (by decide) ?_
                      refine wa_ior ?_
                      refine wa_top (fun v88 hv88 => ?_)
                      clear hv88
                      refine wa_istore_nD (lv' := [(3, .int v88), (8, .int (bI true)), (9, .int v59), (7, .int (gi σ 35 (v9).toNatClampNeg)), (6, .int (gi σ 37 (v7).toNatClampNeg)), (0, .ref 31), (2, .int a1), (4, .int v2), (5, .int l5)]) (i := 3) rfl (by decide) rfl ?_
                      refine wa_iinc (v := (1)) (lv' := fun y89 => [(5, .int y89), (3, .int v88), (8, .int (bI true)), (9, .int v59), (7, .int (gi σ 35 (v9).toNatClampNeg)), (6, .int (gi σ 37 (v7).toNatClampNeg)), (0, .ref 31), (2, .int a1), (4, .int v2)]) (by decide) rfl (by decide) (fun _ => rfl) (fun y89 hy89 => ?_)
                      have ty89 := i_addT hy89.symm
                      clear hy89
                      refine wa_goto o_X6_atomsAt_17 (by decide) ?_
                      refine wa_pick [6, 7, 1, 8, 0] rfl ?_
                      exact ih3 _ (by ((try simp only [vp_in_iff, Int32.lt_iff_toInt_lt, Int32.le_iff_toInt_le, ← Int32.toInt_inj, Int32.reduceToInt, n_1, n_2, n_8, Int32.toNatClampNeg, Int64.lt_iff_toInt_lt, Int64.le_iff_toInt_le, ← Int64.toInt_inj, Int64.reduceToInt, Int32.toInt_toInt64, lg_cmp_ge, lg_cmp_le, lg_cmp_gt, lg_cmp_lt, lg_cmp_eq, Bool.false_eq_true, Bool.true_eq_false, reduceCtorEq, false_iff, true_iff, iff_true, iff_false, and_true, true_and, and_false, false_and, reduceIte, ite_true, ite_false, eq_self] at *)) <;> omega) _ _ ⟨(by ((try simp only [vp_in_iff, Int32.lt_iff_toInt_lt, Int32.le_iff_toInt_le, ← Int32.toInt_inj, Int32.reduceToInt, n_1, n_2, n_8, Int32.toNatClampNeg, Int64.lt_iff_toInt_lt, Int64.le_iff_toInt_le, ← Int64.toInt_inj, Int64.reduceToInt, Int32.toInt_toInt64, lg_cmp_ge, lg_cmp_le, lg_cmp_gt, lg_cmp_lt, lg_cmp_eq, Bool.false_eq_true, Bool.true_eq_false, reduceCtorEq, false_iff, true_iff, iff_true, iff_false, and_true, true_and, and_false, false_and, reduceIte, ite_true, ite_false, eq_self] at *)) <;> omega), trivial⟩ rfl
  exact hi4 _ _ _ ⟨(by ((try simp only [vp_in_iff, Int32.lt_iff_toInt_lt, Int32.le_iff_toInt_le, ← Int32.toInt_inj, Int32.reduceToInt, n_1, n_2, n_8, Int32.toNatClampNeg, Int64.lt_iff_toInt_lt, Int64.le_iff_toInt_le, ← Int64.toInt_inj, Int64.reduceToInt, Int32.toInt_toInt64, lg_cmp_ge, lg_cmp_le, lg_cmp_gt, lg_cmp_lt, lg_cmp_eq, Bool.false_eq_true, Bool.true_eq_false, reduceCtorEq, false_iff, true_iff, iff_true, iff_false, and_true, true_and, and_false, false_and, reduceIte, ite_true, ite_false, eq_self] at *)) <;> omega), trivial⟩ rfl
set_option maxHeartbeats 4000000 in
theorem sp_X6_judge (G : kG9) {d : Nat} (hd : 4 ≤ d) (σ : St) (a0 : Int32) (r1 : 0 ≤ (gi σ 31 13).toInt ∧ (gi σ 31 13).toInt ≤ 3000) : Ct G M_X6_judge d [.ref 31, .int a0] σ (fun r σ' => ∃ x : Bool, r = some (.int (bI x)) ∧ Sm 31 41 σ σ' ∧ (0 ≤ (gi σ' 31 13).toInt ∧ (gi σ' 31 13).toInt ≤ 3000) ∧ True) := by
  refine wa_start (by decide) rfl (Nat.le_of_ble_eq_true rfl) (lv := [(0, .ref 31), (1, .int a0)]) rfl o_X6_judge_0 rfl ?_
  have ua0 := Int32.toInt_lt a0
  have wa0 := Int32.le_toInt a0
  refine wa_aload_n (i := 0) rfl rfl ?_
  refine wa_iload_n (i := 1) rfl rfl ?_
  refine wa_Vi (d9 := d - 1) [.int _] [] (sp_X6_explore G (d := d - 1) (by omega) σ _ (by first | assumption | exact Or.inl rfl | exact Or.inr rfl | (((try simp only [vp_in_iff, Int32.lt_iff_toInt_lt, Int32.le_iff_toInt_le, ← Int32.toInt_inj, Int32.reduceToInt, n_1, n_2, n_8, Int32.toNatClampNeg, Int64.lt_iff_toInt_lt, Int64.le_iff_toInt_le, ← Int64.toInt_inj, Int64.reduceToInt, Int32.toInt_toInt64, lg_cmp_ge, lg_cmp_le, lg_cmp_gt, lg_cmp_lt, lg_cmp_eq, Bool.false_eq_true, Bool.true_eq_false, reduceCtorEq, false_iff, true_iff, iff_true, iff_false, and_true, true_and, and_false, false_and, reduceIte, ite_true, ite_false, eq_self] at *)) <;> omega))) (rfl) rfl rfl (zr (by omega)) mk_X6_explore ly_31 ml_6_48 (Nat.le_of_ble_eq_true rfl) (fun x2 s1 hs1 => ?_)
  obtain ⟨bx2, ex2, fs1, cx2_1, -⟩ := pB hs1
  subst ex2
  have Fs1 := Sm.tr (Sm.rf 31 41 σ) (Sm.wd fs1 (lo' := 31) (hi' := 41) (by decide) (by decide))
  refine wa_if_ne o_X6_judge_10 (by decide) (fun h3 => ?_) (fun h3 => ?_)
  · replace h3 := bI_t (b := bx2) (rfl) h3
    refine wa_iconst (v := 0) (by decide) ?_
    refine wa_istore_nD (lv' := [(2, .int 0), (0, .ref 31), (1, .int a0)]) (i := 2) rfl (by decide) rfl ?_
    refine wa_pick [1, 0] rfl ?_
    have hi6 : ∀ (n9_12 : Nat) (l2 : Int32) (s4 : St), ((Sm 31 41 σ s4) ∧ (gi s4 31 13 = gi s1 31 13) ∧ (gi s4 31 12 = gi s1 31 12) ∧ (0 ≤ l2.toInt) ∧ (True)) → (2147483647 - l2.toInt).toNat = n9_12 → WA G M_X6_judge (ZM G M_X6_judge d (fun r σ' => ∃ x : Bool, r = some (.int (bI x)) ∧ Sm 31 41 σ σ' ∧ (0 ≤ (gi σ' 31 13).toInt ∧ (gi σ' 31 13).toInt ≤ 3000) ∧ True)) B_X6_judge_12 [(0, .ref 31), (2, .int l2)] [] s4 := by
      intro n9_12
      induction n9_12 using Nat.strongRecOn with
      | _ n9_12 ih5 =>
        intro l2 s4 i9 m9_12
        obtain ⟨Fs4, khi6_0, khi6_1, jhi6_0, -⟩ := i9
        have ul2 := Int32.toInt_lt l2
        have wl2 := Int32.le_toInt l2
        refine wa_iload_n (i := 2) rfl rfl ?_
        refine wa_aload_n (i := 0) rfl rfl ?_
        refine wa_geti ck_6 fl_6_52 ly_31 ?_
        refine wa_rw (khi6_0) ?_
        refine wa_icmp_ge o_X6_judge_76 (by decide) (fun h7 => ?_) (fun h7 => ?_)
        · refine wa_iconst (v := 1) (by decide) ?_
          refine wa_zreturn true (rfl) rfl rfl ?_
          exact ⟨_, rfl, Fs4, (by rw [khi6_0]; first | assumption | (((try simp only [vp_in_iff, Int32.lt_iff_toInt_lt, Int32.le_iff_toInt_le, ← Int32.toInt_inj, Int32.reduceToInt, n_1, n_2, n_8, Int32.toNatClampNeg, Int64.lt_iff_toInt_lt, Int64.le_iff_toInt_le, ← Int64.toInt_inj, Int64.reduceToInt, Int32.toInt_toInt64, lg_cmp_ge, lg_cmp_le, lg_cmp_gt, lg_cmp_lt, lg_cmp_eq, Bool.false_eq_true, Bool.true_eq_false, reduceCtorEq, false_iff, true_iff, iff_true, iff_false, and_true, true_and, and_false, false_and, reduceIte, ite_true, ite_false, eq_self] at *)) <;> omega)), trivial⟩
        · have mh7 := nle_mx h7
          refine wa_iload_n (i := 2) rfl rfl ?_
          refine wa_sipush (v := 3000) (by decide) ?_
          refine wa_icmp_ge o_X6_judge_76 (by decide) (fun h8 => ?_) (fun h8 => ?_)
          · refine wa_iconst (v := 1) (by decide) ?_
            refine wa_zreturn true (rfl) rfl rfl ?_
            exact ⟨_, rfl, Fs4, (by rw [khi6_0]; first | assumption | (((try simp only [vp_in_iff, Int32.lt_iff_toInt_lt, Int32.le_iff_toInt_le, ← Int32.toInt_inj, Int32.reduceToInt, n_1, n_2, n_8, Int32.toNatClampNeg, Int64.lt_iff_toInt_lt, Int64.le_iff_toInt_le, ← Int64.toInt_inj, Int64.reduceToInt, Int32.toInt_toInt64, lg_cmp_ge, lg_cmp_le, lg_cmp_gt, lg_cmp_lt, lg_cmp_eq, Bool.false_eq_true, Bool.true_eq_false, reduceCtorEq, false_iff, true_iff, iff_true, iff_false, and_true, true_and, and_false, false_and, reduceIte, ite_true, ite_false, eq_self] at *)) <;> omega)), trivial⟩
          · have mh8 := nle_mx h8
            refine wa_iconst (v := 0) (by decide) ?_
            refine wa_istore_nD (lv' := [(3, .int 0), (0, .ref 31), (2, .int l2)]) (i := 3) rfl (by decide) rfl ?_
            refine wa_pick [1, 2, 0] rfl ?_
            have hi11 : ∀ (n9_29 : Nat) (l3 : Int32) (s9 : St), ((Sm 31 41 σ s9) ∧ (gi s9 31 13 = gi s1 31 13) ∧ (gi s9 31 12 = gi s1 31 12) ∧ (0 ≤ l3.toInt) ∧ (True)) → (2147483647 - l3.toInt).toNat = n9_29 → WA G M_X6_judge (ZM G M_X6_judge d (fun r σ' => ∃ x : Bool, r = some (.int (bI x)) ∧ Sm 31 41 σ σ' ∧ (0 ≤ (gi σ' 31 13).toInt ∧ (gi σ' 31 13).toInt ≤ 3000) ∧ True)) B_X6_judge_29 [(0, .ref 31), (2, .int l2), (3, .int l3)] [] s9 := by
              intro n9_29
              induction n9_29 using Nat.strongRecOn with
              | _ n9_29 ih10 =>
                intro l3 s9 i9 m9_29
                obtain ⟨Fs9, khi11_0, khi11_1, jhi11_0, -⟩ := i9
                have ul3 := Int32.toInt_lt l3
                have wl3 := Int32.le_toInt l3
                refine wa_iload_n (i := 3) rfl rfl ?_
                refine wa_aload_n (i := 0) rfl rfl ?_
                refine wa_geti ck_6 fl_6_56 ly_31 ?_
                refine wa_rw (khi11_1) ?_
                refine wa_icmp_ge o_X6_judge_70 (by decide) (fun h12 => ?_) (fun h12 => ?_)
                · refine wa_iinc (v := (1)) (lv' := fun y13 => [(2, .int y13), (0, .ref 31), (3, .int l3)]) (by decide) rfl (by decide) (fun _ => rfl) (fun y13 hy13 => ?_)
                  have ty13 := i_addT hy13.symm
                  clear hy13
                  refine wa_goto o_X6_judge_12 (by decide) ?_
                  refine wa_pick [1, 0] rfl ?_
                  exact ih5 _ (by ((try simp only [vp_in_iff, Int32.lt_iff_toInt_lt, Int32.le_iff_toInt_le, ← Int32.toInt_inj, Int32.reduceToInt, n_1, n_2, n_8, Int32.toNatClampNeg, Int64.lt_iff_toInt_lt, Int64.le_iff_toInt_le, ← Int64.toInt_inj, Int64.reduceToInt, Int32.toInt_toInt64, lg_cmp_ge, lg_cmp_le, lg_cmp_gt, lg_cmp_lt, lg_cmp_eq, Bool.false_eq_true, Bool.true_eq_false, reduceCtorEq, false_iff, true_iff, iff_true, iff_false, and_true, true_and, and_false, false_and, reduceIte, ite_true, ite_false, eq_self] at *)) <;> omega) _ _ ⟨Fs9, (khi11_0), (khi11_1), (by ((try simp only [vp_in_iff, Int32.lt_iff_toInt_lt, Int32.le_iff_toInt_le, ← Int32.toInt_inj, Int32.reduceToInt, n_1, n_2, n_8, Int32.toNatClampNeg, Int64.lt_iff_toInt_lt, Int64.le_iff_toInt_le, ← Int64.toInt_inj, Int64.reduceToInt, Int32.toInt_toInt64, lg_cmp_ge, lg_cmp_le, lg_cmp_gt, lg_cmp_lt, lg_cmp_eq, Bool.false_eq_true, Bool.true_eq_false, reduceCtorEq, false_iff, true_iff, iff_true, iff_false, and_true, true_and, and_false, false_and, reduceIte, ite_true, ite_false, eq_self] at *)) <;> omega), trivial⟩ rfl
                · have mh12 := nle_mx h12
                  refine wa_iload_n (i := 3) rfl rfl ?_
                  refine wa_bipush (v := 16) (by decide) ?_
                  refine wa_icmp_ge o_X6_judge_70 (by decide) (fun h14 => ?_) (fun h14 => ?_)
                  · refine wa_iinc (v := (1)) (lv' := fun y15 => [(2, .int y15), (0, .ref 31), (3, .int l3)]) (by decide) rfl (by decide) (fun _ => rfl) (fun y15 hy15 => ?_)
                    have ty15 := i_addT hy15.symm
                    clear hy15
                    refine wa_goto o_X6_judge_12 (by decide) ?_
                    refine wa_pick [1, 0] rfl ?_
                    exact ih5 _ (by ((try simp only [vp_in_iff, Int32.lt_iff_toInt_lt, Int32.le_iff_toInt_le, ← Int32.toInt_inj, Int32.reduceToInt, n_1, n_2, n_8, Int32.toNatClampNeg, Int64.lt_iff_toInt_lt, Int64.le_iff_toInt_le, ← Int64.toInt_inj, Int64.reduceToInt, Int32.toInt_toInt64, lg_cmp_ge, lg_cmp_le, lg_cmp_gt, lg_cmp_lt, lg_cmp_eq, Bool.false_eq_true, Bool.true_eq_false, reduceCtorEq, false_iff, true_iff, iff_true, iff_false, and_true, true_and, and_false, false_and, reduceIte, ite_true, ite_false, eq_self] at *)) <;> omega) _ _ ⟨Fs9, (khi11_0), (khi11_1), (by ((try simp only [vp_in_iff, Int32.lt_iff_toInt_lt, Int32.le_iff_toInt_le, ← Int32.toInt_inj, Int32.reduceToInt, n_1, n_2, n_8, Int32.toNatClampNeg, Int64.lt_iff_toInt_lt, Int64.le_iff_toInt_le, ← Int64.toInt_inj, Int64.reduceToInt, Int32.toInt_toInt64, lg_cmp_ge, lg_cmp_le, lg_cmp_gt, lg_cmp_lt, lg_cmp_eq, Bool.false_eq_true, Bool.true_eq_false, reduceCtorEq, false_iff, true_iff, iff_true, iff_false, and_true, true_and, and_false, false_and, reduceIte, ite_true, ite_false, eq_self] at *)) <;> omega), trivial⟩ rfl
                  · have mh14 := nle_mx h14
                    refine wa_aload_n (i := 0) rfl rfl ?_
                    refine wa_getr ck_6 fl_6_38 ly_31 rf_31_8 ?_
                    refine wa_iload_n (i := 2) rfl rfl ?_
                    refine wa_bipush (v := 16) (by decide) ?_
                    refine wa_imul ?_
                    refine wa_top (fun v16 hv16 => ?_)
                    have tv16 := i_mulT hv16
                    clear hv16
                    refine wa_iload_n (i := 3) rfl rfl ?_
                    refine wa_iadd ?_
                    refine wa_top (fun v17 hv17 => ?_)
                    have tv17 := i_addT hv17
                    clear hv17
                    refine wa_aload_n (i := 0) rfl rfl ?_
                    refine wa_aload_n (i := 0) rfl rfl ?_
                    refine wa_iload_n (i := 2) rfl rfl ?_
                    refine wa_iload_n (i := 3) rfl rfl ?_
                    refine wa_Vi (d9 := d - 1) [.int _, .int _] [.ref 31, .int v17, .ref 39] (sp_X6_atomsAt G (d := d - 1) (by omega) s9 _ _ (by ((try simp only [vp_in_iff, Int32.lt_iff_toInt_lt, Int32.le_iff_toInt_le, ← Int32.toInt_inj, Int32.reduceToInt, n_1, n_2, n_8, Int32.toNatClampNeg, Int64.lt_iff_toInt_lt, Int64.le_iff_toInt_le, ← Int64.toInt_inj, Int64.reduceToInt, Int32.toInt_toInt64, lg_cmp_ge, lg_cmp_le, lg_cmp_gt, lg_cmp_lt, lg_cmp_eq, Bool.false_eq_true, Bool.true_eq_false, reduceCtorEq, false_iff, true_iff, iff_true, iff_false, and_true, true_and, and_false, false_and, reduceIte, ite_true, ite_false, eq_self] at *)) <;> omega) (by ((try simp only [vp_in_iff, Int32.lt_iff_toInt_lt, Int32.le_iff_toInt_le, ← Int32.toInt_inj, Int32.reduceToInt, n_1, n_2, n_8, Int32.toNatClampNeg, Int64.lt_iff_toInt_lt, Int64.le_iff_toInt_le, ← Int64.toInt_inj, Int64.reduceToInt, Int32.toInt_toInt64, lg_cmp_ge, lg_cmp_le, lg_cmp_gt, lg_cmp_lt, lg_cmp_eq, Bool.false_eq_true, Bool.true_eq_false, reduceCtorEq, false_iff, true_iff, iff_true, iff_false, and_true, true_and, and_false, false_and, reduceIte, ite_true, ite_false, eq_self] at *)) <;> omega)) (rfl) rfl rfl (zr (by omega)) mk_X6_atomsAt ly_31 ml_6_59 (Nat.le_of_ble_eq_true rfl) (fun x19 s18 hs18 => ?_)
                    obtain ⟨zs18, -⟩ := pI hs18
                    subst zs18
                    refine wa_Vi (d9 := d - 1) [.int _] [.int v17, .ref 39] (sp_X6_soOf G (d := d - 1) (by omega) s9 _) (rfl) rfl rfl (zr (by omega)) mk_X6_soOf ly_31 ml_6_63 (Nat.le_of_ble_eq_true rfl) (fun x21 s20 hs20 => ?_)
                    obtain ⟨zs20, -⟩ := pI hs20
                    subst zs20
                    refine wa_iast ly_39 (by ((try simp only [vp_in_iff, Int32.lt_iff_toInt_lt, Int32.le_iff_toInt_le, ← Int32.toInt_inj, Int32.reduceToInt, n_1, n_2, n_8, Int32.toNatClampNeg, Int64.lt_iff_toInt_lt, Int64.le_iff_toInt_le, ← Int64.toInt_inj, Int64.reduceToInt, Int32.toInt_toInt64, lg_cmp_ge, lg_cmp_le, lg_cmp_gt, lg_cmp_lt, lg_cmp_eq, Bool.false_eq_true, Bool.true_eq_false, reduceCtorEq, false_iff, true_iff, iff_true, iff_false, and_true, true_and, and_false, false_and, reduceIte, ite_true, ite_false, eq_self] at *)) <;> omega) (fun s22 hs22 => ?_)
                    have Fs22 : Sm 31 41 σ s22 := by rw [hs22]; exact Sm.si Fs9 _ _ (by decide) (by decide)
                    refine wa_iinc (v := (1)) (lv' := fun y23 => [(3, .int y23), (0, .ref 31), (2, .int l2)]) (by decide) rfl (by decide) (fun _ => rfl) (fun y23 hy23 => ?_)
                    have ty23 := i_addT hy23.symm
                    clear hy23
                    refine wa_goto o_X6_judge_29 (by decide) ?_
                    refine wa_pick [1, 2, 0] rfl ?_
                    exact ih10 _ (by ((try simp only [vp_in_iff, Int32.lt_iff_toInt_lt, Int32.le_iff_toInt_le, ← Int32.toInt_inj, Int32.reduceToInt, n_1, n_2, n_8, Int32.toNatClampNeg, Int64.lt_iff_toInt_lt, Int64.le_iff_toInt_le, ← Int64.toInt_inj, Int64.reduceToInt, Int32.toInt_toInt64, lg_cmp_ge, lg_cmp_le, lg_cmp_gt, lg_cmp_lt, lg_cmp_eq, Bool.false_eq_true, Bool.true_eq_false, reduceCtorEq, false_iff, true_iff, iff_true, iff_false, and_true, true_and, and_false, false_and, reduceIte, ite_true, ite_false, eq_self] at *)) <;> omega) _ _ ⟨Fs22, ((nxq_gi_si hs22 (by decide)).trans (khi11_0)), ((nxq_gi_si hs22 (by decide)).trans (khi11_1)), (by ((try simp only [vp_in_iff, Int32.lt_iff_toInt_lt, Int32.le_iff_toInt_le, ← Int32.toInt_inj, Int32.reduceToInt, n_1, n_2, n_8, Int32.toNatClampNeg, Int64.lt_iff_toInt_lt, Int64.le_iff_toInt_le, ← Int64.toInt_inj, Int64.reduceToInt, Int32.toInt_toInt64, lg_cmp_ge, lg_cmp_le, lg_cmp_gt, lg_cmp_lt, lg_cmp_eq, Bool.false_eq_true, Bool.true_eq_false, reduceCtorEq, false_iff, true_iff, iff_true, iff_false, and_true, true_and, and_false, false_and, reduceIte, ite_true, ite_false, eq_self] at *)) <;> omega), trivial⟩ rfl
            exact hi11 _ _ _ ⟨Fs4, (khi6_0), (khi6_1), (by ((try simp only [vp_in_iff, Int32.lt_iff_toInt_lt, Int32.le_iff_toInt_le, ← Int32.toInt_inj, Int32.reduceToInt, n_1, n_2, n_8, Int32.toNatClampNeg, Int64.lt_iff_toInt_lt, Int64.le_iff_toInt_le, ← Int64.toInt_inj, Int64.reduceToInt, Int32.toInt_toInt64, lg_cmp_ge, lg_cmp_le, lg_cmp_gt, lg_cmp_lt, lg_cmp_eq, Bool.false_eq_true, Bool.true_eq_false, reduceCtorEq, false_iff, true_iff, iff_true, iff_false, and_true, true_and, and_false, false_and, reduceIte, ite_true, ite_false, eq_self] at *)) <;> omega), trivial⟩ rfl
    exact hi6 _ _ _ ⟨Fs1, (rfl), (rfl), (by ((try simp only [vp_in_iff, Int32.lt_iff_toInt_lt, Int32.le_iff_toInt_le, ← Int32.toInt_inj, Int32.reduceToInt, n_1, n_2, n_8, Int32.toNatClampNeg, Int64.lt_iff_toInt_lt, Int64.le_iff_toInt_le, ← Int64.toInt_inj, Int64.reduceToInt, Int32.toInt_toInt64, lg_cmp_ge, lg_cmp_le, lg_cmp_gt, lg_cmp_lt, lg_cmp_eq, Bool.false_eq_true, Bool.true_eq_false, reduceCtorEq, false_iff, true_iff, iff_true, iff_false, and_true, true_and, and_false, false_and, reduceIte, ite_true, ite_false, eq_self] at *)) <;> omega), trivial⟩ rfl
  · replace h3 := bI_f (b := bx2) (rfl) h3
    refine wa_iconst (v := 0) (by decide) ?_
    refine wa_zreturn false (rfl) rfl rfl ?_
    exact ⟨_, rfl, Fs1, (by first | assumption | (((try simp only [vp_in_iff, Int32.lt_iff_toInt_lt, Int32.le_iff_toInt_le, ← Int32.toInt_inj, Int32.reduceToInt, n_1, n_2, n_8, Int32.toNatClampNeg, Int64.lt_iff_toInt_lt, Int64.le_iff_toInt_le, ← Int64.toInt_inj, Int64.reduceToInt, Int32.toInt_toInt64, lg_cmp_ge, lg_cmp_le, lg_cmp_gt, lg_cmp_lt, lg_cmp_eq, Bool.false_eq_true, Bool.true_eq_false, reduceCtorEq, false_iff, true_iff, iff_true, iff_false, and_true, true_and, and_false, false_and, reduceIte, ite_true, ite_false, eq_self] at *)) <;> omega)), trivial⟩
set_option maxHeartbeats 4000000 in
theorem sp_X7_isLine (G : kG9) {d : Nat} (hd : 0 ≤ d) (σ : St) (a0 : Int32) : Ct G M_X7_isLine d [.ref 75, .int a0] σ (fun r σ' => ∃ x : Bool, r = some (.int (bI x)) ∧ σ = σ' ∧ True) := by
  refine wa_start (by decide) rfl (Nat.le_of_ble_eq_true rfl) (lv := [(0, .ref 75), (1, .int a0)]) rfl o_X7_isLine_0 rfl ?_
  have ua0 := Int32.toInt_lt a0
  have wa0 := Int32.le_toInt a0
  refine wa_iload_n (i := 1) rfl rfl ?_
  refine wa_iconst (v := 1) (by decide) ?_
  refine wa_icmp_lt o_X7_isLine_17 (by decide) (fun h1 => ?_) (fun h1 => ?_)
  · refine wa_iconst (v := 0) (by decide) ?_
    refine wa_zreturn false (rfl) rfl rfl ?_
    exact ⟨_, rfl, rfl, trivial⟩
  · refine wa_iload_n (i := 1) rfl rfl ?_
    refine wa_aload_n (i := 0) rfl rfl ?_
    refine wa_geti ck_7 fl_7_46 ly_75 ?_
    refine wa_icmp_gt o_X7_isLine_17 (by decide) (fun h2 => ?_) (fun h2 => ?_)
    · refine wa_iconst (v := 0) (by decide) ?_
      refine wa_zreturn false (rfl) rfl rfl ?_
      exact ⟨_, rfl, rfl, trivial⟩
    · refine wa_iconst (v := 1) (by decide) ?_
      refine wa_goto o_X7_isLine_18 (by decide) ?_
      refine wa_zreturn true (rfl) rfl rfl ?_
      exact ⟨_, rfl, rfl, trivial⟩
set_option maxHeartbeats 4000000 in
theorem sp_X7_lineNumber (G : kG9) {d : Nat} (hd : 0 ≤ d) (σ : St) (a0 : Int32) (a1 : Int32) : Ct G M_X7_lineNumber d [.ref 75, .int a0, .int a1] σ (fun r σ' => ∃ x : Int64, r = some (.long x) ∧ σ = σ' ∧ True) := by
  refine wa_start (by decide) rfl (Nat.le_of_ble_eq_true rfl) (lv := [(0, .ref 75), (1, .int a0), (2, .int a1)]) rfl o_X7_lineNumber_0 rfl ?_
  have ua0 := Int32.toInt_lt a0
  have wa0 := Int32.le_toInt a0
  have ua1 := Int32.toInt_lt a1
  have wa1 := Int32.le_toInt a1
  refine wa_iload_n (i := 1) rfl rfl ?_
  refine wa_iconst (v := 1) (by decide) ?_
  refine wa_icmp_lt o_X7_lineNumber_36 (by decide) (fun h1 => ?_) (fun h1 => ?_)
  · refine wa_lconst (v := 0) (by decide) ?_
    refine wa_lreturn rfl rfl ?_
    exact ⟨_, rfl, rfl, trivial⟩
  · refine wa_iload_n (i := 1) rfl rfl ?_
    refine wa_sipush (v := 200) (by decide) ?_
    refine wa_icmp_gt o_X7_lineNumber_36 (by decide) (fun h2 => ?_) (fun h2 => ?_)
    · refine wa_lconst (v := 0) (by decide) ?_
      refine wa_lreturn rfl rfl ?_
      exact ⟨_, rfl, rfl, trivial⟩
    · refine wa_iload_n (i := 2) rfl rfl ?_
      refine wa_if_lt o_X7_lineNumber_36 (by decide) (fun h3 => ?_) (fun h3 => ?_)
      · refine wa_lconst (v := 0) (by decide) ?_
        refine wa_lreturn rfl rfl ?_
        exact ⟨_, rfl, rfl, trivial⟩
      · refine wa_iload_n (i := 2) rfl rfl ?_
        refine wa_iconst (v := 5) (by decide) ?_
        refine wa_icmp_ge o_X7_lineNumber_36 (by decide) (fun h4 => ?_) (fun h4 => ?_)
        · refine wa_lconst (v := 0) (by decide) ?_
          refine wa_lreturn rfl rfl ?_
          exact ⟨_, rfl, rfl, trivial⟩
        · have mh4 := nle_mx h4
          refine wa_aload_n (i := 0) rfl rfl ?_
          refine wa_getr ck_7 fl_7_11 ly_75 rf_75_2 ?_
          refine wa_iload_n (i := 1) rfl rfl ?_
          refine wa_iconst (v := 1) (by decide) ?_
          refine wa_isub ?_
          refine wa_top (fun v5 hv5 => ?_)
          have tv5 := i_subT hv5
          clear hv5
          refine wa_iconst (v := 5) (by decide) ?_
          refine wa_imul ?_
          refine wa_top (fun v6 hv6 => ?_)
          have tv6 := i_mulT hv6
          clear hv6
          refine wa_iload_n (i := 2) rfl rfl ?_
          refine wa_iadd ?_
          refine wa_top (fun v7 hv7 => ?_)
          have tv7 := i_addT hv7
          clear hv7
          refine wa_lald ly_76 (by ((try simp only [vp_in_iff, Int32.lt_iff_toInt_lt, Int32.le_iff_toInt_le, ← Int32.toInt_inj, Int32.reduceToInt, n_1, n_2, n_8, Int32.toNatClampNeg, Int64.lt_iff_toInt_lt, Int64.le_iff_toInt_le, ← Int64.toInt_inj, Int64.reduceToInt, Int32.toInt_toInt64, lg_cmp_ge, lg_cmp_le, lg_cmp_gt, lg_cmp_lt, lg_cmp_eq, Bool.false_eq_true, Bool.true_eq_false, reduceCtorEq, false_iff, true_iff, iff_true, iff_false, and_true, true_and, and_false, false_and, reduceIte, ite_true, ite_false, eq_self] at *)) <;> omega) ?_
          refine wa_goto o_X7_lineNumber_37 (by decide) ?_
          refine wa_lreturn rfl rfl ?_
          exact ⟨_, rfl, rfl, trivial⟩
theorem pad_21e : True := trivial
