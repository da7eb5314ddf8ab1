set_option maxHeartbeats 4000000 in
theorem sp_X12_chooseBasis (G : kG9) {d : Nat} (hd : 3 ≤ d) (σ : St) (r1 : 0 ≤ (gi σ 84 32).toInt ∧ (gi σ 84 32).toInt ≤ 4) : Ct G M_X12_chooseBasis d [.ref 84] σ (fun r σ' => Fm [93, 94, 103] [] σ σ' ∧ True) := by
  refine wa_start (by decide) rfl (Nat.le_of_ble_eq_true rfl) (lv := [(0, .ref 84)]) rfl o_X12_chooseBasis_0 rfl ?_
  refine wa_iconst (v := 0) (by decide) ?_
  refine wa_istore_nD (lv' := [(1, .int 0), (0, .ref 84)]) (i := 1) rfl (by decide) rfl ?_
  refine wa_iconst (v := 0) (by decide) ?_
  refine wa_istore_nD (lv' := [(2, .int 0), (1, .int 0), (0, .ref 84)]) (i := 2) rfl (by decide) rfl ?_
  refine wa_pick [2, 1, 0] rfl ?_
  have hi3 : ∀ (n9_4 : Nat) (l1 : Int32) (l2 : Int32) (s1 : St), ((Fm [93, 94, 103] [] σ s1) ∧ (gi s1 84 32 = gi σ 84 32) ∧ (gi s1 84 160 = gi σ 84 160) ∧ (0 ≤ l2.toInt) ∧ (True)) → (2147483647 - l2.toInt).toNat = n9_4 → WA G M_X12_chooseBasis (ZM G M_X12_chooseBasis d (fun r σ' => Fm [93, 94, 103] [] σ σ' ∧ True)) B_X12_chooseBasis_4 [(0, .ref 84), (1, .int l1), (2, .int l2)] [] s1 := by
    intro n9_4
    induction n9_4 using Nat.strongRecOn with
    | _ n9_4 ih2 =>
      intro l1 l2 s1 i9 m9_4
      obtain ⟨Fs1, khi3_0, khi3_1, jhi3_0, -⟩ := i9
      have ul1 := Int32.toInt_lt l1
      have wl1 := Int32.le_toInt l1
      have ul2 := Int32.toInt_lt l2
      have wl2 := Int32.le_toInt l2
      refine wa_iload_n (i := 2) rfl rfl ?_
      refine wa_aload_n (i := 0) rfl rfl ?_
      refine wa_geti ck_12 fl_12_1067 ly_84 ?_
      refine wa_rw (khi3_1) ?_
      refine wa_icmp_ge o_X12_chooseBasis_53 (by decide) (fun h4 => ?_) (fun h4 => ?_)
      · refine wa_return (st := []) rfl rfl ?_
        exact ⟨Fs1, trivial⟩
      · have mh4 := nle_mx h4
        refine wa_iload_n (i := 1) rfl rfl ?_
        refine wa_aload_n (i := 0) rfl rfl ?_
        refine wa_geti ck_12 fl_12_815 ly_84 ?_
        refine wa_rw (khi3_0) ?_
        refine wa_icmp_ge o_X12_chooseBasis_53 (by decide) (fun h5 => ?_) (fun h5 => ?_)
        · refine wa_return (st := []) rfl rfl ?_
          exact ⟨Fs1, trivial⟩
        · have mh5 := nle_mx h5
          refine wa_aload_n (i := 0) rfl rfl ?_
          refine wa_iload_n (i := 2) rfl rfl ?_
          refine wa_Vi (d9 := d - 1) [.int _] [] (sp_X12_isTight G (d := d - 1) (by omega) s1 _ (by rw [khi3_0]; first | assumption | exact Or.inl rfl | exact Or.inr rfl | (((try simp only [vp_in_iff, Int32.lt_iff_toInt_lt, Int32.le_iff_toInt_le, ← Int32.toInt_inj, Int32.reduceToInt, n_1, n_2, n_8, Int32.toNatClampNeg, Int64.lt_iff_toInt_lt, Int64.le_iff_toInt_le, ← Int64.toInt_inj, Int64.reduceToInt, Int32.toInt_toInt64, lg_cmp_ge, lg_cmp_le, lg_cmp_gt, lg_cmp_lt, lg_cmp_eq, Bool.false_eq_true, Bool.true_eq_false, reduceCtorEq, false_iff, true_iff, iff_true, iff_false, and_true, true_and, and_false, false_and, reduceIte, ite_true, ite_false, eq_self] at *)) <;> omega))) (rfl) rfl rfl (zr (by omega)) mk_X12_isTight ly_84 ml_12_1169 (Nat.le_of_ble_eq_true rfl) (fun x7 s6 hs6 => ?_)
          obtain ⟨bx7, ex7, zs6, -⟩ := pB hs6
          subst ex7
          subst zs6
          refine wa_if_eq o_X12_chooseBasis_47 (by decide) (fun h8 => ?_) (fun h8 => ?_)
          · replace h8 := bI_f (b := bx7) (rfl) h8
            refine wa_iinc (v := (1)) (lv' := fun y9 => [(2, .int y9), (0, .ref 84), (1, .int l1)]) (by decide) rfl (by decide) (fun _ => rfl) (fun y9 hy9 => ?_)
            have ty9 := i_addT hy9.symm
            clear hy9
            refine wa_goto o_X12_chooseBasis_4 (by decide) ?_
            refine wa_pick [1, 2, 0] rfl ?_
            exact ih2 _ (by ((try simp only [vp_in_iff, Int32.lt_iff_toInt_lt, Int32.le_iff_toInt_le, ← Int32.toInt_inj, Int32.reduceToInt, n_1, n_2, n_8, Int32.toNatClampNeg, Int64.lt_iff_toInt_lt, Int64.le_iff_toInt_le, ← Int64.toInt_inj, Int64.reduceToInt, Int32.toInt_toInt64, lg_cmp_ge, lg_cmp_le, lg_cmp_gt, lg_cmp_lt, lg_cmp_eq, Bool.false_eq_true, Bool.true_eq_false, reduceCtorEq, false_iff, true_iff, iff_true, iff_false, and_true, true_and, and_false, false_and, reduceIte, ite_true, ite_false, eq_self] at *)) <;> omega) _ _ _ ⟨Fs1, (khi3_0), (khi3_1), (by ((try simp only [vp_in_iff, Int32.lt_iff_toInt_lt, Int32.le_iff_toInt_le, ← Int32.toInt_inj, Int32.reduceToInt, n_1, n_2, n_8, Int32.toNatClampNeg, Int64.lt_iff_toInt_lt, Int64.le_iff_toInt_le, ← Int64.toInt_inj, Int64.reduceToInt, Int32.toInt_toInt64, lg_cmp_ge, lg_cmp_le, lg_cmp_gt, lg_cmp_lt, lg_cmp_eq, Bool.false_eq_true, Bool.true_eq_false, reduceCtorEq, false_iff, true_iff, iff_true, iff_false, and_true, true_and, and_false, false_and, reduceIte, ite_true, ite_false, eq_self] at *)) <;> omega), trivial⟩ rfl
          · replace h8 := bI_t (b := bx7) (rfl) h8
            refine wa_aload_n (i := 0) rfl rfl ?_
            refine wa_iload_n (i := 2) rfl rfl ?_
            refine wa_iload_n (i := 1) rfl rfl ?_
            refine wa_Vi (d9 := d - 1) [.int _, .int _] [] (sp_X12_isFree G (d := d - 1) (by omega) s1 _ _) (rfl) rfl rfl (zr (by omega)) mk_X12_isFree ly_84 ml_12_1172 (Nat.le_of_ble_eq_true rfl) (fun x11 s10 hs10 => ?_)
            obtain ⟨bx11, ex11, fs10, -⟩ := pB hs10
            subst ex11
            have Fs10 : Fm [93, 94, 103] [] σ s10 := Fm.tr Fs1 (Fm.wd fs10 rfl rfl)
            refine wa_if_eq o_X12_chooseBasis_47 (by decide) (fun h12 => ?_) (fun h12 => ?_)
            · replace h12 := bI_f (b := bx11) (rfl) h12
              refine wa_iinc (v := (1)) (lv' := fun y13 => [(2, .int y13), (0, .ref 84), (1, .int l1)]) (by decide) rfl (by decide) (fun _ => rfl) (fun y13 hy13 => ?_)
              have ty13 := i_addT hy13.symm
              clear hy13
              refine wa_goto o_X12_chooseBasis_4 (by decide) ?_
              refine wa_pick [1, 2, 0] rfl ?_
              exact ih2 _ (by ((try simp only [vp_in_iff, Int32.lt_iff_toInt_lt, Int32.le_iff_toInt_le, ← Int32.toInt_inj, Int32.reduceToInt, n_1, n_2, n_8, Int32.toNatClampNeg, Int64.lt_iff_toInt_lt, Int64.le_iff_toInt_le, ← Int64.toInt_inj, Int64.reduceToInt, Int32.toInt_toInt64, lg_cmp_ge, lg_cmp_le, lg_cmp_gt, lg_cmp_lt, lg_cmp_eq, Bool.false_eq_true, Bool.true_eq_false, reduceCtorEq, false_iff, true_iff, iff_true, iff_false, and_true, true_and, and_false, false_and, reduceIte, ite_true, ite_false, eq_self] at *)) <;> omega) _ _ _ ⟨Fs10, ((Fm.gi fs10 (q := 84) (k := 32) rfl rfl).trans (khi3_0)), ((Fm.gi fs10 (q := 84) (k := 160) rfl rfl).trans (khi3_1)), (by ((try simp only [vp_in_iff, Int32.lt_iff_toInt_lt, Int32.le_iff_toInt_le, ← Int32.toInt_inj, Int32.reduceToInt, n_1, n_2, n_8, Int32.toNatClampNeg, Int64.lt_iff_toInt_lt, Int64.le_iff_toInt_le, ← Int64.toInt_inj, Int64.reduceToInt, Int32.toInt_toInt64, lg_cmp_ge, lg_cmp_le, lg_cmp_gt, lg_cmp_lt, lg_cmp_eq, Bool.false_eq_true, Bool.true_eq_false, reduceCtorEq, false_iff, true_iff, iff_true, iff_false, and_true, true_and, and_false, false_and, reduceIte, ite_true, ite_false, eq_self] at *)) <;> omega), trivial⟩ rfl
            · replace h12 := bI_t (b := bx11) (rfl) h12
              refine wa_aload_n (i := 0) rfl rfl ?_
              refine wa_getr ck_12 fl_12_400 ly_84 rf_84_162 ?_
              refine wa_iload_n (i := 1) rfl rfl ?_
              refine wa_iload_n (i := 2) rfl rfl ?_
              refine wa_iast ly_103 (by ((try simp only [vp_in_iff, Int32.lt_iff_toInt_lt, Int32.le_iff_toInt_le, ← Int32.toInt_inj, Int32.reduceToInt, n_1, n_2, n_8, Int32.toNatClampNeg, Int64.lt_iff_toInt_lt, Int64.le_iff_toInt_le, ← Int64.toInt_inj, Int64.reduceToInt, Int32.toInt_toInt64, lg_cmp_ge, lg_cmp_le, lg_cmp_gt, lg_cmp_lt, lg_cmp_eq, Bool.false_eq_true, Bool.true_eq_false, reduceCtorEq, false_iff, true_iff, iff_true, iff_false, and_true, true_and, and_false, false_and, reduceIte, ite_true, ite_false, eq_self] at *)) <;> omega) (fun s14 hs14 => ?_)
              have Fs14 : Fm [93, 94, 103] [] σ s14 := by rw [hs14]; exact Fm.si Fs10 rfl
              refine wa_iinc (v := (1)) (lv' := fun y15 => [(1, .int y15), (0, .ref 84), (2, .int l2)]) (by decide) rfl (by decide) (fun _ => rfl) (fun y15 hy15 => ?_)
              have ty15 := i_addT hy15.symm
              clear hy15
              refine wa_iinc (v := (1)) (lv' := fun y16 => [(2, .int y16), (1, .int y15), (0, .ref 84)]) (by decide) rfl (by decide) (fun _ => rfl) (fun y16 hy16 => ?_)
              have ty16 := i_addT hy16.symm
              clear hy16
              refine wa_goto o_X12_chooseBasis_4 (by decide) ?_
              refine wa_pick [2, 1, 0] rfl ?_
              exact ih2 _ (by ((try simp only [vp_in_iff, Int32.lt_iff_toInt_lt, Int32.le_iff_toInt_le, ← Int32.toInt_inj, Int32.reduceToInt, n_1, n_2, n_8, Int32.toNatClampNeg, Int64.lt_iff_toInt_lt, Int64.le_iff_toInt_le, ← Int64.toInt_inj, Int64.reduceToInt, Int32.toInt_toInt64, lg_cmp_ge, lg_cmp_le, lg_cmp_gt, lg_cmp_lt, lg_cmp_eq, Bool.false_eq_true, Bool.true_eq_false, reduceCtorEq, false_iff, true_iff, iff_true, iff_false, and_true, true_and, and_false, false_and, reduceIte, ite_true, ite_false, eq_self] at *)) <;> omega) _ _ _ ⟨Fs14, ((nxq_gi_si hs14 (by decide)).trans ((Fm.gi fs10 (q := 84) (k := 32) rfl rfl).trans (khi3_0))), ((nxq_gi_si hs14 (by decide)).trans ((Fm.gi fs10 (q := 84) (k := 160) rfl rfl).trans (khi3_1))), (by ((try simp only [vp_in_iff, Int32.lt_iff_toInt_lt, Int32.le_iff_toInt_le, ← Int32.toInt_inj, Int32.reduceToInt, n_1, n_2, n_8, Int32.toNatClampNeg, Int64.lt_iff_toInt_lt, Int64.le_iff_toInt_le, ← Int64.toInt_inj, Int64.reduceToInt, Int32.toInt_toInt64, lg_cmp_ge, lg_cmp_le, lg_cmp_gt, lg_cmp_lt, lg_cmp_eq, Bool.false_eq_true, Bool.true_eq_false, reduceCtorEq, false_iff, true_iff, iff_true, iff_false, and_true, true_and, and_false, false_and, reduceIte, ite_true, ite_false, eq_self] at *)) <;> omega), trivial⟩ rfl
  exact hi3 _ _ _ _ ⟨(Fm.rf [93, 94, 103] [] σ), (rfl), (rfl), (by ((try simp only [vp_in_iff, Int32.lt_iff_toInt_lt, Int32.le_iff_toInt_le, ← Int32.toInt_inj, Int32.reduceToInt, n_1, n_2, n_8, Int32.toNatClampNeg, Int64.lt_iff_toInt_lt, Int64.le_iff_toInt_le, ← Int64.toInt_inj, Int64.reduceToInt, Int32.toInt_toInt64, lg_cmp_ge, lg_cmp_le, lg_cmp_gt, lg_cmp_lt, lg_cmp_eq, Bool.false_eq_true, Bool.true_eq_false, reduceCtorEq, false_iff, true_iff, iff_true, iff_false, and_true, true_and, and_false, false_and, reduceIte, ite_true, ite_false, eq_self] at *)) <;> omega), trivial⟩ rfl
set_option maxHeartbeats 4000000 in
theorem sp_X12_isSmall (G : kG9) {d : Nat} (hd : 0 ≤ d) (σ : St) (a0 : Int64) : Ct G M_X12_isSmall d [.long a0] σ (fun r σ' => ∃ x : Bool, r = some (.int (bI x)) ∧ σ = σ' ∧ True) := by
  refine wa_start (by decide) rfl (Nat.le_of_ble_eq_true rfl) (lv := [(0, .long a0)]) rfl o_X12_isSmall_0 rfl ?_
  refine wa_lload_n (i := 0) rfl rfl ?_
  refine wa_ldc2 (v := (-100000000)) (allW_in (kT_15 _ (List.mem_of_getElem? (i := 149) rfl)) rfl) ?_
  refine wa_lcmp ?_
  refine wa_top (fun v1 hv1 => ?_)
  have tv1 := i_cmpT hv1
  clear hv1
  refine wa_if_lt o_X12_isSmall_20 (by decide) (fun h2 => ?_) (fun h2 => ?_)
  · refine wa_iconst (v := 0) (by decide) ?_
    refine wa_zreturn false (rfl) rfl rfl ?_
    exact ⟨_, rfl, rfl, trivial⟩
  · refine wa_lload_n (i := 0) rfl rfl ?_
    refine wa_ldc2 (v := (100000000)) (allW_in (kT_15 _ (List.mem_of_getElem? (i := 150) rfl)) rfl) ?_
    refine wa_lcmp ?_
    refine wa_top (fun v3 hv3 => ?_)
    have tv3 := i_cmpT hv3
    clear hv3
    refine wa_if_gt o_X12_isSmall_20 (by decide) (fun h4 => ?_) (fun h4 => ?_)
    · refine wa_iconst (v := 0) (by decide) ?_
      refine wa_zreturn false (rfl) rfl rfl ?_
      exact ⟨_, rfl, rfl, trivial⟩
    · refine wa_iconst (v := 1) (by decide) ?_
      refine wa_goto o_X12_isSmall_21 (by decide) ?_
      refine wa_zreturn true (rfl) rfl rfl ?_
      exact ⟨_, rfl, rfl, trivial⟩
set_option maxHeartbeats 4000000 in
theorem sp_X12_cutRow (G : kG9) {d : Nat} (hd : 4 ≤ d) (σ : St) (a0 : Int32) (r1 : 0 ≤ (gi σ 84 32).toInt ∧ (gi σ 84 32).toInt ≤ 4) : Ct G M_X12_cutRow d [.ref 84, .int a0] σ (fun r σ' => ∃ x : Bool, r = some (.int (bI x)) ∧ Fm [93, 94, 102, 103, 147] [101, 102] σ σ' ∧ True) := by
  refine wa_start (by decide) rfl (Nat.le_of_ble_eq_true rfl) (lv := [(0, .ref 84), (1, .int a0)]) rfl o_X12_cutRow_0 rfl ?_
  have ua0 := Int32.toInt_lt a0
  have wa0 := Int32.le_toInt a0
  refine wa_aload_n (i := 0) rfl rfl ?_
  refine wa_getr ck_12 fl_12_406 ly_84 rf_84_165 ?_
  refine wa_iload_n (i := 1) rfl rfl ?_
  refine wa_lald ly_101 (by ((try simp only [vp_in_iff, Int32.lt_iff_toInt_lt, Int32.le_iff_toInt_le, ← Int32.toInt_inj, Int32.reduceToInt, n_1, n_2, n_8, Int32.toNatClampNeg, Int64.lt_iff_toInt_lt, Int64.le_iff_toInt_le, ← Int64.toInt_inj, Int64.reduceToInt, Int32.toInt_toInt64, lg_cmp_ge, lg_cmp_le, lg_cmp_gt, lg_cmp_lt, lg_cmp_eq, Bool.false_eq_true, Bool.true_eq_false, reduceCtorEq, false_iff, true_iff, iff_true, iff_false, and_true, true_and, and_false, false_and, reduceIte, ite_true, ite_false, eq_self] at *)) <;> omega) ?_
  refine wa_aload_n (i := 0) rfl rfl ?_
  refine wa_getl ck_12 fl_12_1097 ly_84 ?_
  refine wa_Sl (d9 := d - 1) [.long _, .long _] [] (sp_X12_floor G (d := d - 1) (by omega) σ _ _) (rfl) rfl rfl (zr (by omega)) mk_X12_floor ml_12_1175 (Nat.le_of_ble_eq_true rfl) (fun x2 s1 hs1 => ?_)
  obtain ⟨zs1, -⟩ := pL hs1
  subst zs1
  refine wa_lstore_nD (lv' := [(2, .long x2), (0, .ref 84), (1, .int a0)]) (i := 2) rfl (by decide) rfl ?_
  refine wa_aload_n (i := 0) rfl rfl ?_
  refine wa_Vv (d9 := d - 1) [] [] (sp_X12_chooseBasis G (d := d - 1) (by omega) σ  (by first | assumption | exact Or.inl rfl | exact Or.inr rfl | (((try simp only [vp_in_iff, Int32.lt_iff_toInt_lt, Int32.le_iff_toInt_le, ← Int32.toInt_inj, Int32.reduceToInt, n_1, n_2, n_8, Int32.toNatClampNeg, Int64.lt_iff_toInt_lt, Int64.le_iff_toInt_le, ← Int64.toInt_inj, Int64.reduceToInt, Int32.toInt_toInt64, lg_cmp_ge, lg_cmp_le, lg_cmp_gt, lg_cmp_lt, lg_cmp_eq, Bool.false_eq_true, Bool.true_eq_false, reduceCtorEq, false_iff, true_iff, iff_true, iff_false, and_true, true_and, and_false, false_and, reduceIte, ite_true, ite_false, eq_self] at *)) <;> omega))) (rfl) rfl rfl (zr (by omega)) mk_X12_chooseBasis ly_84 ml_12_1178 (Nat.le_of_ble_eq_true rfl) (fun s3 hs3 => ?_)
  obtain ⟨fs3, -⟩ := hs3
  have Fs3 : Fm [93, 94, 102, 103, 147] [101, 102] σ s3 := Fm.tr (Fm.rf [93, 94, 102, 103, 147] [101, 102] σ) (Fm.wd fs3 rfl rfl)
  refine wa_aload_n (i := 0) rfl rfl ?_
  refine wa_Vv (d9 := d - 1) [] [] (sp_X12_layBasis G (d := d - 1) (by omega) s3  (by rw [Fm.gi fs3 (q := 84) (k := 32) rfl rfl]; first | assumption | exact Or.inl rfl | exact Or.inr rfl | (((try simp only [vp_in_iff, Int32.lt_iff_toInt_lt, Int32.le_iff_toInt_le, ← Int32.toInt_inj, Int32.reduceToInt, n_1, n_2, n_8, Int32.toNatClampNeg, Int64.lt_iff_toInt_lt, Int64.le_iff_toInt_le, ← Int64.toInt_inj, Int64.reduceToInt, Int32.toInt_toInt64, lg_cmp_ge, lg_cmp_le, lg_cmp_gt, lg_cmp_lt, lg_cmp_eq, Bool.false_eq_true, Bool.true_eq_false, reduceCtorEq, false_iff, true_iff, iff_true, iff_false, and_true, true_and, and_false, false_and, reduceIte, ite_true, ite_false, eq_self] at *)) <;> omega))) (rfl) rfl rfl (zr (by omega)) mk_X12_layBasis ly_84 ml_12_1090 (Nat.le_of_ble_eq_true rfl) (fun s5 hs5 => ?_)
  obtain ⟨fs5, -⟩ := hs5
  have Fs5 : Fm [93, 94, 102, 103, 147] [101, 102] σ s5 := Fm.tr Fs3 (Fm.wd fs5 rfl rfl)
  refine wa_aload_n (i := 0) rfl rfl ?_
  refine wa_Vl (d9 := d - 1) [] [] (sp_X12_determinant G (d := d - 1) (by omega) s5  (by rw [(Fm.gi fs5 (q := 84) (k := 32) rfl rfl).trans (Fm.gi fs3 (q := 84) (k := 32) rfl rfl)]; first | assumption | exact Or.inl rfl | exact Or.inr rfl | (((try simp only [vp_in_iff, Int32.lt_iff_toInt_lt, Int32.le_iff_toInt_le, ← Int32.toInt_inj, Int32.reduceToInt, n_1, n_2, n_8, Int32.toNatClampNeg, Int64.lt_iff_toInt_lt, Int64.le_iff_toInt_le, ← Int64.toInt_inj, Int64.reduceToInt, Int32.toInt_toInt64, lg_cmp_ge, lg_cmp_le, lg_cmp_gt, lg_cmp_lt, lg_cmp_eq, Bool.false_eq_true, Bool.true_eq_false, reduceCtorEq, false_iff, true_iff, iff_true, iff_false, and_true, true_and, and_false, false_and, reduceIte, ite_true, ite_false, eq_self] at *)) <;> omega))) (rfl) rfl rfl (zr (by omega)) mk_X12_determinant ly_84 ml_12_1093 (Nat.le_of_ble_eq_true rfl) (fun x8 s7 hs7 => ?_)
  obtain ⟨zs7, -⟩ := pL hs7
  subst zs7
  refine wa_lstoreD (lv' := [(4, .long x8), (2, .long x2), (0, .ref 84), (1, .int a0)]) (by decide) rfl ?_
  refine wa_aload_n (i := 0) rfl rfl ?_
  refine wa_lload_n (i := 2) rfl rfl ?_
  refine wa_Vv (d9 := d - 1) [.long _] [] (sp_X12_clearHere G (d := d - 1) (by omega) s5 _) (rfl) rfl rfl (zr (by omega)) mk_X12_clearHere ly_84 ml_12_771 (Nat.le_of_ble_eq_true rfl) (fun s9 hs9 => ?_)
  obtain ⟨fs9, -⟩ := hs9
  have Fs9 : Fm [93, 94, 102, 103, 147] [101, 102] σ s9 := Fm.tr Fs5 (Fm.wd fs9 rfl rfl)
  refine wa_aload_n (i := 0) rfl rfl ?_
  refine wa_getr ck_12 fl_12_262 ly_84 rf_84_100 ?_
  refine wa_iload_n (i := 1) rfl rfl ?_
  refine wa_lconst (v := 1) (by decide) ?_
  refine wa_last ly_147 (by ((try simp only [vp_in_iff, Int32.lt_iff_toInt_lt, Int32.le_iff_toInt_le, ← Int32.toInt_inj, Int32.reduceToInt, n_1, n_2, n_8, Int32.toNatClampNeg, Int64.lt_iff_toInt_lt, Int64.le_iff_toInt_le, ← Int64.toInt_inj, Int64.reduceToInt, Int32.toInt_toInt64, lg_cmp_ge, lg_cmp_le, lg_cmp_gt, lg_cmp_lt, lg_cmp_eq, Bool.false_eq_true, Bool.true_eq_false, reduceCtorEq, false_iff, true_iff, iff_true, iff_false, and_true, true_and, and_false, false_and, reduceIte, ite_true, ite_false, eq_self] at *)) <;> omega) (fun s11 hs11 => ?_)
  have Fs11 : Fm [93, 94, 102, 103, 147] [101, 102] σ s11 := by rw [hs11]; exact Fm.sl Fs9 rfl
  refine wa_iconst (v := 0) (by decide) ?_
  refine wa_istoreD (lv' := [(6, .int 0), (4, .long x8), (2, .long x2), (0, .ref 84), (1, .int a0)]) (by decide) rfl ?_
  refine wa_pick [3, 4, 1, 0] rfl ?_
  have hi14 : ∀ (n9_43 : Nat) (l6 : Int32) (s12 : St), ((Fm [93, 94, 102, 103, 147] [101, 102] σ s12) ∧ (gi s12 84 32 = gi σ 84 32) ∧ (gl s12 84 164 = gl σ 84 164) ∧ (0 ≤ l6.toInt) ∧ (True)) → (2147483647 - l6.toInt).toNat = n9_43 → WA G M_X12_cutRow (ZM G M_X12_cutRow d (fun r σ' => ∃ x : Bool, r = some (.int (bI x)) ∧ Fm [93, 94, 102, 103, 147] [101, 102] σ σ' ∧ True)) B_X12_cutRow_43 [(0, .ref 84), (1, .int a0), (4, .long x8), (6, .int l6)] [] s12 := by
    intro n9_43
    induction n9_43 using Nat.strongRecOn with
    | _ n9_43 ih13 =>
      intro l6 s12 i9 m9_43
      obtain ⟨Fs12, khi14_0, khi14_1, jhi14_0, -⟩ := i9
      have ul6 := Int32.toInt_lt l6
      have wl6 := Int32.le_toInt l6
      refine wa_iload rfl ?_
      refine wa_aload_n (i := 0) rfl rfl ?_
      refine wa_geti ck_12 fl_12_815 ly_84 ?_
      refine wa_rw (khi14_0) ?_
      refine wa_icmp_ge o_X12_cutRow_210 (by decide) (fun h15 => ?_) (fun h15 => ?_)
      · refine wa_lconst (v := 0) (by decide) ?_
        refine wa_lstoreD (lv' := [(6, .long 0), (0, .ref 84), (1, .int a0), (4, .long x8)]) (by decide) rfl ?_
        refine wa_iconst (v := 0) (by decide) ?_
        refine wa_istoreD (lv' := [(8, .int 0), (6, .long 0), (0, .ref 84), (1, .int a0), (4, .long x8)]) (by decide) rfl ?_
        refine wa_pick [2, 1, 0] rfl ?_
        have hi18 : ∀ (n9_216 : Nat) (l6 : Int64) (l8 : Int32) (s16 : St), ((Fm [93, 94, 102, 103, 147] [101, 102] σ s16) ∧ (gi s16 84 32 = gi σ 84 32) ∧ (gl s16 84 164 = gl σ 84 164) ∧ (gl s16 84 101 = gl s12 84 101) ∧ (0 ≤ l8.toInt) ∧ (True)) → (2147483647 - l8.toInt).toNat = n9_216 → WA G M_X12_cutRow (ZM G M_X12_cutRow d (fun r σ' => ∃ x : Bool, r = some (.int (bI x)) ∧ Fm [93, 94, 102, 103, 147] [101, 102] σ σ' ∧ True)) B_X12_cutRow_216 [(0, .ref 84), (6, .long l6), (8, .int l8)] [] s16 := by
          intro n9_216
          induction n9_216 using Nat.strongRecOn with
          | _ n9_216 ih17 =>
            intro l6 l8 s16 i9 m9_216
            obtain ⟨Fs16, khi18_0, khi18_1, khi18_2, jhi18_0, -⟩ := i9
            have ul8 := Int32.toInt_lt l8
            have wl8 := Int32.le_toInt l8
            refine wa_iload rfl ?_
            refine wa_iconst (v := 4) (by decide) ?_
            refine wa_icmp_ge o_X12_cutRow_266 (by decide) (fun h19 => ?_) (fun h19 => ?_)
            · refine wa_iconst (v := 1) (by decide) ?_
              refine wa_istoreD (lv' := [(8, .int (bI true)), (0, .ref 84), (6, .long l6)]) (by decide) rfl ?_
              refine wa_aload_n (i := 0) rfl rfl ?_
              refine wa_aload_n (i := 0) rfl rfl ?_
              refine wa_getl ck_12 fl_12_736 ly_84 ?_
              refine wa_rwl (khi18_2) ?_
              refine wa_lload rfl ?_
              refine wa_Sl (d9 := d - 1) [.long _, .long _] [.ref 84] (sp_X12_floor G (d := d - 1) (by omega) s16 _ _) (rfl) rfl rfl (zr (by omega)) mk_X12_floor ml_12_1175 (Nat.le_of_ble_eq_true rfl) (fun x21 s20 hs20 => ?_)
              obtain ⟨zs20, -⟩ := pL hs20
              subst zs20
              refine wa_putl ck_12 fl_12_736 ly_84 (fun s22 hs22 => ?_)
              have Fs22 : Fm [93, 94, 102, 103, 147] [101, 102] σ s22 := by rw [hs22]; exact Fm.sl Fs16 rfl
              refine wa_iconst (v := 0) (by decide) ?_
              refine wa_istoreD (lv' := [(9, .int 0), (8, .int (bI true)), (0, .ref 84), (6, .long l6)]) (by decide) rfl ?_
              refine wa_pick [2, 3, 1, 0] rfl ?_
              have hi25 : ∀ (n9_285 : Nat) (l8 : Bool) (l9 : Int32) (s23 : St), ((Fm [93, 94, 102, 103, 147] [101, 102] σ s23) ∧ (gi s23 84 32 = gi σ 84 32) ∧ (gl s23 84 164 = gl σ 84 164) ∧ (gl s23 84 101 = x21) ∧ (0 ≤ l9.toInt) ∧ (True)) → (2147483647 - l9.toInt).toNat = n9_285 → WA G M_X12_cutRow (ZM G M_X12_cutRow d (fun r σ' => ∃ x : Bool, r = some (.int (bI x)) ∧ Fm [93, 94, 102, 103, 147] [101, 102] σ σ' ∧ True)) B_X12_cutRow_285 [(0, .ref 84), (6, .long l6), (8, .int (bI l8)), (9, .int l9)] [] s23 := by
                intro n9_285
                induction n9_285 using Nat.strongRecOn with
                | _ n9_285 ih24 =>
                  intro l8 l9 s23 i9 m9_285
                  obtain ⟨Fs23, khi25_0, khi25_1, khi25_2, jhi25_0, -⟩ := i9
                  have ul9 := Int32.toInt_lt l9
                  have wl9 := Int32.le_toInt l9
                  refine wa_iload rfl ?_
                  refine wa_iconst (v := 4) (by decide) ?_
                  refine wa_icmp_ge o_X12_cutRow_345 (by decide) (fun h26 => ?_) (fun h26 => ?_)
                  · refine wa_iload rfl ?_
                    refine wa_if_eq o_X12_cutRow_364 (by decide) (fun h27 => ?_) (fun h27 => ?_)
                    · replace h27 := bI_f (b := l8) (rfl) h27
                      refine wa_iconst (v := 0) (by decide) ?_
                      refine wa_zreturn false (rfl) rfl rfl ?_
                      exact ⟨_, rfl, Fs23, trivial⟩
                    · replace h27 := bI_t (b := l8) (rfl) h27
                      refine wa_aload_n (i := 0) rfl rfl ?_
                      refine wa_getl ck_12 fl_12_736 ly_84 ?_
                      refine wa_rwl (khi25_2) ?_
                      refine wa_Si (d9 := d - 1) [.long _] [] (sp_X12_isSmall G (d := d - 1) (by omega) s23 _) (rfl) rfl rfl (zr (by omega)) mk_X12_isSmall ml_12_1185 (Nat.le_of_ble_eq_true rfl) (fun x29 s28 hs28 => ?_)
                      obtain ⟨bx29, ex29, zs28, -⟩ := pB hs28
                      subst ex29
                      subst zs28
                      refine wa_if_eq o_X12_cutRow_364 (by decide) (fun h30 => ?_) (fun h30 => ?_)
                      · replace h30 := bI_f (b := bx29) (rfl) h30
                        refine wa_iconst (v := 0) (by decide) ?_
                        refine wa_zreturn false (rfl) rfl rfl ?_
                        exact ⟨_, rfl, Fs23, trivial⟩
                      · replace h30 := bI_t (b := bx29) (rfl) h30
                        refine wa_iconst (v := 1) (by decide) ?_
                        refine wa_goto o_X12_cutRow_365 (by decide) ?_
                        refine wa_zreturn true (rfl) rfl rfl ?_
                        exact ⟨_, rfl, Fs23, trivial⟩
                  · have mh26 := nle_mx h26
                    refine wa_aload_n (i := 0) rfl rfl ?_
                    refine wa_getr ck_12 fl_12_262 ly_84 rf_84_100 ?_
                    refine wa_iload rfl ?_
                    refine wa_aload_n (i := 0) rfl rfl ?_
                    refine wa_getr ck_12 fl_12_262 ly_84 rf_84_100 ?_
                    refine wa_iload rfl ?_
                    refine wa_lald ly_147 (by ((try simp only [vp_in_iff, Int32.lt_iff_toInt_lt, Int32.le_iff_toInt_le, ← Int32.toInt_inj, Int32.reduceToInt, n_1, n_2, n_8, Int32.toNatClampNeg, Int64.lt_iff_toInt_lt, Int64.le_iff_toInt_le, ← Int64.toInt_inj, Int64.reduceToInt, Int32.toInt_toInt64, lg_cmp_ge, lg_cmp_le, lg_cmp_gt, lg_cmp_lt, lg_cmp_eq, Bool.false_eq_true, Bool.true_eq_false, reduceCtorEq, false_iff, true_iff, iff_true, iff_false, and_true, true_and, and_false, false_and, reduceIte, ite_true, ite_false, eq_self] at *)) <;> omega) ?_
                    refine wa_lload rfl ?_
                    refine wa_ldiv (by ((try simp only [vp_in_iff, Int32.lt_iff_toInt_lt, Int32.le_iff_toInt_le, ← Int32.toInt_inj, Int32.reduceToInt, n_1, n_2, n_8, Int32.toNatClampNeg, Int64.lt_iff_toInt_lt, Int64.le_iff_toInt_le, ← Int64.toInt_inj, Int64.reduceToInt, Int32.toInt_toInt64, lg_cmp_ge, lg_cmp_le, lg_cmp_gt, lg_cmp_lt, lg_cmp_eq, Bool.false_eq_true, Bool.true_eq_false, reduceCtorEq, false_iff, true_iff, iff_true, iff_false, and_true, true_and, and_false, false_and, reduceIte, ite_true, ite_false, eq_self] at *)) <;> omega) ?_
                    refine wa_topl (fun v31 hv31 => ?_)
                    have tv31 := l_divU hv31
                    clear hv31
                    refine wa_last ly_147 (by ((try simp only [vp_in_iff, Int32.lt_iff_toInt_lt, Int32.le_iff_toInt_le, ← Int32.toInt_inj, Int32.reduceToInt, n_1, n_2, n_8, Int32.toNatClampNeg, Int64.lt_iff_toInt_lt, Int64.le_iff_toInt_le, ← Int64.toInt_inj, Int64.reduceToInt, Int32.toInt_toInt64, lg_cmp_ge, lg_cmp_le, lg_cmp_gt, lg_cmp_lt, lg_cmp_eq, Bool.false_eq_true, Bool.true_eq_false, reduceCtorEq, false_iff, true_iff, iff_true, iff_false, and_true, true_and, and_false, false_and, reduceIte, ite_true, ite_false, eq_self] at *)) <;> omega) (fun s32 hs32 => ?_)
                    have Fs32 : Fm [93, 94, 102, 103, 147] [101, 102] σ s32 := by rw [hs32]; exact Fm.sl Fs23 rfl
                    refine wa_iload rfl ?_
                    refine wa_if_eq o_X12_cutRow_336 (by decide) (fun h33 => ?_) (fun h33 => ?_)
                    · replace h33 := bI_f (b := l8) (rfl) h33
                      refine wa_iconst (v := 0) (by decide) ?_
                      refine wa_istoreD (lv' := [(8, .int (bI false)), (0, .ref 84), (6, .long l6), (9, .int l9)]) (by decide) rfl ?_
                      refine wa_iinc (v := (1)) (lv' := fun y34 => [(9, .int y34), (8, .int (bI false)), (0, .ref 84), (6, .long l6)]) (by decide) rfl (by decide) (fun _ => rfl) (fun y34 hy34 => ?_)
                      have ty34 := i_addT hy34.symm
                      clear hy34
                      refine wa_goto o_X12_cutRow_285 (by decide) ?_
                      refine wa_pick [2, 3, 1, 0] rfl ?_
                      exact ih24 _ (by ((try simp only [vp_in_iff, Int32.lt_iff_toInt_lt, Int32.le_iff_toInt_le, ← Int32.toInt_inj, Int32.reduceToInt, n_1, n_2, n_8, Int32.toNatClampNeg, Int64.lt_iff_toInt_lt, Int64.le_iff_toInt_le, ← Int64.toInt_inj, Int64.reduceToInt, Int32.toInt_toInt64, lg_cmp_ge, lg_cmp_le, lg_cmp_gt, lg_cmp_lt, lg_cmp_eq, Bool.false_eq_true, Bool.true_eq_false, reduceCtorEq, false_iff, true_iff, iff_true, iff_false, and_true, true_and, and_false, false_and, reduceIte, ite_true, ite_false, eq_self] at *)) <;> omega) _ _ _ ⟨Fs32, ((nx_gi_sl hs32).trans (khi25_0)), ((nxq_gl_sl hs32 (by decide)).trans (khi25_1)), ((nxq_gl_sl hs32 (by decide)).trans (khi25_2)), (by ((try simp only [vp_in_iff, Int32.lt_iff_toInt_lt, Int32.le_iff_toInt_le, ← Int32.toInt_inj, Int32.reduceToInt, n_1, n_2, n_8, Int32.toNatClampNeg, Int64.lt_iff_toInt_lt, Int64.le_iff_toInt_le, ← Int64.toInt_inj, Int64.reduceToInt, Int32.toInt_toInt64, lg_cmp_ge, lg_cmp_le, lg_cmp_gt, lg_cmp_lt, lg_cmp_eq, Bool.false_eq_true, Bool.true_eq_false, reduceCtorEq, false_iff, true_iff, iff_true, iff_false, and_true, true_and, and_false, false_and, reduceIte, ite_true, ite_false, eq_self] at *)) <;> omega), trivial⟩ rfl
                    · replace h33 := bI_t (b := l8) (rfl) h33
                      refine wa_aload_n (i := 0) rfl rfl ?_
                      refine wa_getr ck_12 fl_12_262 ly_84 rf_84_100 ?_
                      refine wa_iload rfl ?_
                      refine wa_lald ly_147 (by ((try simp only [vp_in_iff, Int32.lt_iff_toInt_lt, Int32.le_iff_toInt_le, ← Int32.toInt_inj, Int32.reduceToInt, n_1, n_2, n_8, Int32.toNatClampNeg, Int64.lt_iff_toInt_lt, Int64.le_iff_toInt_le, ← Int64.toInt_inj, Int64.reduceToInt, Int32.toInt_toInt64, lg_cmp_ge, lg_cmp_le, lg_cmp_gt, lg_cmp_lt, lg_cmp_eq, Bool.false_eq_true, Bool.true_eq_false, reduceCtorEq, false_iff, true_iff, iff_true, iff_false, and_true, true_and, and_false, false_and, reduceIte, ite_true, ite_false, eq_self] at *)) <;> omega) ?_
                      refine wa_ldc2 (v := (-200)) (allW_in (kT_15 _ (List.mem_of_getElem? (i := 144) rfl)) rfl) ?_
                      refine wa_ldc2 (v := (200)) (allW_in (kT_15 _ (List.mem_of_getElem? (i := 145) rfl)) rfl) ?_
                      refine wa_Si (d9 := d - 1) [.long _, .long _, .long _] [] (sp_X12_in G (d := d - 1) (by omega) s32 _ _ _) (rfl) rfl rfl (zr (by omega)) mk_X12_in ml_12_504 (Nat.le_of_ble_eq_true rfl) (fun x36 s35 hs35 => ?_)
                      obtain ⟨bx36, ex36, zs35, cx36_1, -⟩ := pB hs35
                      subst ex36
                      subst zs35
                      refine wa_if_eq o_X12_cutRow_336 (by decide) (fun h37 => ?_) (fun h37 => ?_)
                      · replace h37 := bI_f (b := bx36) (rfl) h37
                        have uh37_0 := iff_f cx36_1 h37
                        refine wa_iconst (v := 0) (by decide) ?_
                        refine wa_istoreD (lv' := [(8, .int (bI false)), (0, .ref 84), (6, .long l6), (9, .int l9)]) (by decide) rfl ?_
                        refine wa_iinc (v := (1)) (lv' := fun y38 => [(9, .int y38), (8, .int (bI false)), (0, .ref 84), (6, .long l6)]) (by decide) rfl (by decide) (fun _ => rfl) (fun y38 hy38 => ?_)
                        have ty38 := i_addT hy38.symm
                        clear hy38
                        refine wa_goto o_X12_cutRow_285 (by decide) ?_
                        refine wa_pick [2, 3, 1, 0] rfl ?_
                        exact ih24 _ (by ((try simp only [vp_in_iff, Int32.lt_iff_toInt_lt, Int32.le_iff_toInt_le, ← Int32.toInt_inj, Int32.reduceToInt, n_1, n_2, n_8, Int32.toNatClampNeg, Int64.lt_iff_toInt_lt, Int64.le_iff_toInt_le, ← Int64.toInt_inj, Int64.reduceToInt, Int32.toInt_toInt64, lg_cmp_ge, lg_cmp_le, lg_cmp_gt, lg_cmp_lt, lg_cmp_eq, Bool.false_eq_true, Bool.true_eq_false, reduceCtorEq, false_iff, true_iff, iff_true, iff_false, and_true, true_and, and_false, false_and, reduceIte, ite_true, ite_false, eq_self] at *)) <;> omega) _ _ _ ⟨Fs32, ((nx_gi_sl hs32).trans (khi25_0)), ((nxq_gl_sl hs32 (by decide)).trans (khi25_1)), ((nxq_gl_sl hs32 (by decide)).trans (khi25_2)), (by ((try simp only [vp_in_iff, Int32.lt_iff_toInt_lt, Int32.le_iff_toInt_le, ← Int32.toInt_inj, Int32.reduceToInt, n_1, n_2, n_8, Int32.toNatClampNeg, Int64.lt_iff_toInt_lt, Int64.le_iff_toInt_le, ← Int64.toInt_inj, Int64.reduceToInt, Int32.toInt_toInt64, lg_cmp_ge, lg_cmp_le, lg_cmp_gt, lg_cmp_lt, lg_cmp_eq, Bool.false_eq_true, Bool.true_eq_false, reduceCtorEq, false_iff, true_iff, iff_true, iff_false, and_true, true_and, and_false, false_and, reduceIte, ite_true, ite_false, eq_self] at *)) <;> omega), trivial⟩ rfl
                      · replace h37 := bI_t (b := bx36) (rfl) h37
                        have uh37_0 := iff_t cx36_1 h37
                        refine wa_iconst (v := 1) (by decide) ?_
                        refine wa_goto o_X12_cutRow_337 (by decide) ?_
                        refine wa_istoreD (lv' := [(8, .int (bI true)), (0, .ref 84), (6, .long l6), (9, .int l9)]) (by decide) rfl ?_
                        refine wa_iinc (v := (1)) (lv' := fun y39 => [(9, .int y39), (8, .int (bI true)), (0, .ref 84), (6, .long l6)]) (by decide) rfl (by decide) (fun _ => rfl) (fun y39 hy39 => ?_)
                        have ty39 := i_addT hy39.symm
                        clear hy39
                        refine wa_goto o_X12_cutRow_285 (by decide) ?_
                        refine wa_pick [2, 3, 1, 0] rfl ?_
                        exact ih24 _ (by ((try simp only [vp_in_iff, Int32.lt_iff_toInt_lt, Int32.le_iff_toInt_le, ← Int32.toInt_inj, Int32.reduceToInt, n_1, n_2, n_8, Int32.toNatClampNeg, Int64.lt_iff_toInt_lt, Int64.le_iff_toInt_le, ← Int64.toInt_inj, Int64.reduceToInt, Int32.toInt_toInt64, lg_cmp_ge, lg_cmp_le, lg_cmp_gt, lg_cmp_lt, lg_cmp_eq, Bool.false_eq_true, Bool.true_eq_false, reduceCtorEq, false_iff, true_iff, iff_true, iff_false, and_true, true_and, and_false, false_and, reduceIte, ite_true, ite_false, eq_self] at *)) <;> omega) _ _ _ ⟨Fs32, ((nx_gi_sl hs32).trans (khi25_0)), ((nxq_gl_sl hs32 (by decide)).trans (khi25_1)), ((nxq_gl_sl hs32 (by decide)).trans (khi25_2)), (by ((try simp only [vp_in_iff, Int32.lt_iff_toInt_lt, Int32.le_iff_toInt_le, ← Int32.toInt_inj, Int32.reduceToInt, n_1, n_2, n_8, Int32.toNatClampNeg, Int64.lt_iff_toInt_lt, Int64.le_iff_toInt_le, ← Int64.toInt_inj, Int64.reduceToInt, Int32.toInt_toInt64, lg_cmp_ge, lg_cmp_le, lg_cmp_gt, lg_cmp_lt, lg_cmp_eq, Bool.false_eq_true, Bool.true_eq_false, reduceCtorEq, false_iff, true_iff, iff_true, iff_false, and_true, true_and, and_false, false_and, reduceIte, ite_true, ite_false, eq_self] at *)) <;> omega), trivial⟩ rfl
              exact hi25 _ _ _ _ ⟨Fs22, ((nx_gi_sl hs22).trans (khi18_0)), ((nxk_gl_sl hs22 (by decide)).trans (khi18_1)), (nxe_gl_sl hs22), (by ((try simp only [vp_in_iff, Int32.lt_iff_toInt_lt, Int32.le_iff_toInt_le, ← Int32.toInt_inj, Int32.reduceToInt, n_1, n_2, n_8, Int32.toNatClampNeg, Int64.lt_iff_toInt_lt, Int64.le_iff_toInt_le, ← Int64.toInt_inj, Int64.reduceToInt, Int32.toInt_toInt64, lg_cmp_ge, lg_cmp_le, lg_cmp_gt, lg_cmp_lt, lg_cmp_eq, Bool.false_eq_true, Bool.true_eq_false, reduceCtorEq, false_iff, true_iff, iff_true, iff_false, and_true, true_and, and_false, false_and, reduceIte, ite_true, ite_false, eq_self] at *)) <;> omega), trivial⟩ rfl
            · have mh19 := nle_mx h19
              refine wa_lload rfl ?_
              refine wa_aload_n (i := 0) rfl rfl ?_
              refine wa_getr ck_12 fl_12_262 ly_84 rf_84_100 ?_
              refine wa_iload rfl ?_
              refine wa_lald ly_147 (by ((try simp only [vp_in_iff, Int32.lt_iff_toInt_lt, Int32.le_iff_toInt_le, ← Int32.toInt_inj, Int32.reduceToInt, n_1, n_2, n_8, Int32.toNatClampNeg, Int64.lt_iff_toInt_lt, Int64.le_iff_toInt_le, ← Int64.toInt_inj, Int64.reduceToInt, Int32.toInt_toInt64, lg_cmp_ge, lg_cmp_le, lg_cmp_gt, lg_cmp_lt, lg_cmp_eq, Bool.false_eq_true, Bool.true_eq_false, reduceCtorEq, false_iff, true_iff, iff_true, iff_false, and_true, true_and, and_false, false_and, reduceIte, ite_true, ite_false, eq_self] at *)) <;> omega) ?_
              refine wa_lconst (v := 0) (by decide) ?_
              refine wa_lcmp ?_
              refine wa_top (fun v40 hv40 => ?_)
              have tv40 := i_cmpT hv40
              clear hv40
              refine wa_if_ge o_X12_cutRow_248 (by decide) (fun h41 => ?_) (fun h41 => ?_)
              · refine wa_aload_n (i := 0) rfl rfl ?_
                refine wa_getr ck_12 fl_12_262 ly_84 rf_84_100 ?_
                refine wa_iload rfl ?_
                refine wa_lald ly_147 (by ((try simp only [vp_in_iff, Int32.lt_iff_toInt_lt, Int32.le_iff_toInt_le, ← Int32.toInt_inj, Int32.reduceToInt, n_1, n_2, n_8, Int32.toNatClampNeg, Int64.lt_iff_toInt_lt, Int64.le_iff_toInt_le, ← Int64.toInt_inj, Int64.reduceToInt, Int32.toInt_toInt64, lg_cmp_ge, lg_cmp_le, lg_cmp_gt, lg_cmp_lt, lg_cmp_eq, Bool.false_eq_true, Bool.true_eq_false, reduceCtorEq, false_iff, true_iff, iff_true, iff_false, and_true, true_and, and_false, false_and, reduceIte, ite_true, ite_false, eq_self] at *)) <;> omega) ?_
                refine wa_Sl (d9 := d - 1) [.long _, .long _] [] (sp_X12_divisor G (d := d - 1) (by omega) s16 _ _ (by ((try simp only [vp_in_iff, Int32.lt_iff_toInt_lt, Int32.le_iff_toInt_le, ← Int32.toInt_inj, Int32.reduceToInt, n_1, n_2, n_8, Int32.toNatClampNeg, Int64.lt_iff_toInt_lt, Int64.le_iff_toInt_le, ← Int64.toInt_inj, Int64.reduceToInt, Int32.toInt_toInt64, lg_cmp_ge, lg_cmp_le, lg_cmp_gt, lg_cmp_lt, lg_cmp_eq, Bool.false_eq_true, Bool.true_eq_false, reduceCtorEq, false_iff, true_iff, iff_true, iff_false, and_true, true_and, and_false, false_and, reduceIte, ite_true, ite_false, eq_self] at *)) <;> omega)) (rfl) rfl rfl (zr (by omega)) mk_X12_divisor ml_12_743 (Nat.le_of_ble_eq_true rfl) (fun x43 s42 hs42 => ?_)
                obtain ⟨zs42, cx43_1, cx43_2, -⟩ := pL hs42
                subst zs42
                refine wa_lstoreD (lv' := [(6, .long x43), (0, .ref 84), (8, .int l8)]) (by decide) rfl ?_
                refine wa_iinc (v := (1)) (lv' := fun y44 => [(8, .int y44), (6, .long x43), (0, .ref 84)]) (by decide) rfl (by decide) (fun _ => rfl) (fun y44 hy44 => ?_)
                have ty44 := i_addT hy44.symm
                clear hy44
                refine wa_goto o_X12_cutRow_216 (by decide) ?_
                refine wa_pick [2, 1, 0] rfl ?_
                exact ih17 _ (by ((try simp only [vp_in_iff, Int32.lt_iff_toInt_lt, Int32.le_iff_toInt_le, ← Int32.toInt_inj, Int32.reduceToInt, n_1, n_2, n_8, Int32.toNatClampNeg, Int64.lt_iff_toInt_lt, Int64.le_iff_toInt_le, ← Int64.toInt_inj, Int64.reduceToInt, Int32.toInt_toInt64, lg_cmp_ge, lg_cmp_le, lg_cmp_gt, lg_cmp_lt, lg_cmp_eq, Bool.false_eq_true, Bool.true_eq_false, reduceCtorEq, false_iff, true_iff, iff_true, iff_false, and_true, true_and, and_false, false_and, reduceIte, ite_true, ite_false, eq_self] at *)) <;> omega) _ _ _ ⟨Fs16, (khi18_0), (khi18_1), (khi18_2), (by ((try simp only [vp_in_iff, Int32.lt_iff_toInt_lt, Int32.le_iff_toInt_le, ← Int32.toInt_inj, Int32.reduceToInt, n_1, n_2, n_8, Int32.toNatClampNeg, Int64.lt_iff_toInt_lt, Int64.le_iff_toInt_le, ← Int64.toInt_inj, Int64.reduceToInt, Int32.toInt_toInt64, lg_cmp_ge, lg_cmp_le, lg_cmp_gt, lg_cmp_lt, lg_cmp_eq, Bool.false_eq_true, Bool.true_eq_false, reduceCtorEq, false_iff, true_iff, iff_true, iff_false, and_true, true_and, and_false, false_and, reduceIte, ite_true, ite_false, eq_self] at *)) <;> omega), trivial⟩ rfl
              · refine wa_lconst (v := 0) (by decide) ?_
                refine wa_aload_n (i := 0) rfl rfl ?_
                refine wa_getr ck_12 fl_12_262 ly_84 rf_84_100 ?_
                refine wa_iload rfl ?_
                refine wa_lald ly_147 (by ((try simp only [vp_in_iff, Int32.lt_iff_toInt_lt, Int32.le_iff_toInt_le, ← Int32.toInt_inj, Int32.reduceToInt, n_1, n_2, n_8, Int32.toNatClampNeg, Int64.lt_iff_toInt_lt, Int64.le_iff_toInt_le, ← Int64.toInt_inj, Int64.reduceToInt, Int32.toInt_toInt64, lg_cmp_ge, lg_cmp_le, lg_cmp_gt, lg_cmp_lt, lg_cmp_eq, Bool.false_eq_true, Bool.true_eq_false, reduceCtorEq, false_iff, true_iff, iff_true, iff_false, and_true, true_and, and_false, false_and, reduceIte, ite_true, ite_false, eq_self] at *)) <;> omega) ?_
                refine wa_lsub ?_
                refine wa_topl (fun v45 hv45 => ?_)
                have tv45 := s_l_remU hv45
                clear hv45
                refine wa_goto o_X12_cutRow_255 (by decide) ?_
                refine wa_Sl (d9 := d - 1) [.long _, .long _] [] (sp_X12_divisor G (d := d - 1) (by omega) s16 _ _ (by ((try simp only [vp_in_iff, Int32.lt_iff_toInt_lt, Int32.le_iff_toInt_le, ← Int32.toInt_inj, Int32.reduceToInt, n_1, n_2, n_8, Int32.toNatClampNeg, Int64.lt_iff_toInt_lt, Int64.le_iff_toInt_le, ← Int64.toInt_inj, Int64.reduceToInt, Int32.toInt_toInt64, lg_cmp_ge, lg_cmp_le, lg_cmp_gt, lg_cmp_lt, lg_cmp_eq, Bool.false_eq_true, Bool.true_eq_false, reduceCtorEq, false_iff, true_iff, iff_true, iff_false, and_true, true_and, and_false, false_and, reduceIte, ite_true, ite_false, eq_self] at *)) <;> omega)) (rfl) rfl rfl (zr (by omega)) mk_X12_divisor ml_12_743 (Nat.le_of_ble_eq_true rfl) (fun x47 s46 hs46 => ?_)
                obtain ⟨zs46, cx47_1, cx47_2, -⟩ := pL hs46
                subst zs46
                refine wa_lstoreD (lv' := [(6, .long x47), (0, .ref 84), (8, .int l8)]) (by decide) rfl ?_
                refine wa_iinc (v := (1)) (lv' := fun y48 => [(8, .int y48), (6, .long x47), (0, .ref 84)]) (by decide) rfl (by decide) (fun _ => rfl) (fun y48 hy48 => ?_)
                have ty48 := i_addT hy48.symm
                clear hy48
                refine wa_goto o_X12_cutRow_216 (by decide) ?_
                refine wa_pick [2, 1, 0] rfl ?_
                exact ih17 _ (by ((try simp only [vp_in_iff, Int32.lt_iff_toInt_lt, Int32.le_iff_toInt_le, ← Int32.toInt_inj, Int32.reduceToInt, n_1, n_2, n_8, Int32.toNatClampNeg, Int64.lt_iff_toInt_lt, Int64.le_iff_toInt_le, ← Int64.toInt_inj, Int64.reduceToInt, Int32.toInt_toInt64, lg_cmp_ge, lg_cmp_le, lg_cmp_gt, lg_cmp_lt, lg_cmp_eq, Bool.false_eq_true, Bool.true_eq_false, reduceCtorEq, false_iff, true_iff, iff_true, iff_false, and_true, true_and, and_false, false_and, reduceIte, ite_true, ite_false, eq_self] at *)) <;> omega) _ _ _ ⟨Fs16, (khi18_0), (khi18_1), (khi18_2), (by ((try simp only [vp_in_iff, Int32.lt_iff_toInt_lt, Int32.le_iff_toInt_le, ← Int32.toInt_inj, Int32.reduceToInt, n_1, n_2, n_8, Int32.toNatClampNeg, Int64.lt_iff_toInt_lt, Int64.le_iff_toInt_le, ← Int64.toInt_inj, Int64.reduceToInt, Int32.toInt_toInt64, lg_cmp_ge, lg_cmp_le, lg_cmp_gt, lg_cmp_lt, lg_cmp_eq, Bool.false_eq_true, Bool.true_eq_false, reduceCtorEq, false_iff, true_iff, iff_true, iff_false, and_true, true_and, and_false, false_and, reduceIte, ite_true, ite_false, eq_self] at *)) <;> omega), trivial⟩ rfl
        exact hi18 _ _ _ _ ⟨Fs12, (khi14_0), (khi14_1), (rfl), (by ((try simp only [vp_in_iff, Int32.lt_iff_toInt_lt, Int32.le_iff_toInt_le, ← Int32.toInt_inj, Int32.reduceToInt, n_1, n_2, n_8, Int32.toNatClampNeg, Int64.lt_iff_toInt_lt, Int64.le_iff_toInt_le, ← Int64.toInt_inj, Int64.reduceToInt, Int32.toInt_toInt64, lg_cmp_ge, lg_cmp_le, lg_cmp_gt, lg_cmp_lt, lg_cmp_eq, Bool.false_eq_true, Bool.true_eq_false, reduceCtorEq, false_iff, true_iff, iff_true, iff_false, and_true, true_and, and_false, false_and, reduceIte, ite_true, ite_false, eq_self] at *)) <;> omega), trivial⟩ rfl
      · have mh15 := nle_mx h15
        refine wa_aload_n (i := 0) rfl rfl ?_
        refine wa_Vv (d9 := d - 1) [] [] (sp_X12_layBasis G (d := d - 1) (by omega) s12  (by rw [khi14_0]; first | assumption | exact Or.inl rfl | exact Or.inr rfl | (((try simp only [vp_in_iff, Int32.lt_iff_toInt_lt, Int32.le_iff_toInt_le, ← Int32.toInt_inj, Int32.reduceToInt, n_1, n_2, n_8, Int32.toNatClampNeg, Int64.lt_iff_toInt_lt, Int64.le_iff_toInt_le, ← Int64.toInt_inj, Int64.reduceToInt, Int32.toInt_toInt64, lg_cmp_ge, lg_cmp_le, lg_cmp_gt, lg_cmp_lt, lg_cmp_eq, Bool.false_eq_true, Bool.true_eq_false, reduceCtorEq, false_iff, true_iff, iff_true, iff_false, and_true, true_and, and_false, false_and, reduceIte, ite_true, ite_false, eq_self] at *)) <;> omega))) (rfl) rfl rfl (zr (by omega)) mk_X12_layBasis ly_84 ml_12_1090 (Nat.le_of_ble_eq_true rfl) (fun s49 hs49 => ?_)
        obtain ⟨fs49, -⟩ := hs49
        have Fs49 : Fm [93, 94, 102, 103, 147] [101, 102] σ s49 := Fm.tr Fs12 (Fm.wd fs49 rfl rfl)
        refine wa_iconst (v := 0) (by decide) ?_
        refine wa_istoreD (lv' := [(7, .int 0), (0, .ref 84), (1, .int a0), (4, .long x8), (6, .int l6)]) (by decide) rfl ?_
        refine wa_pick [1, 2, 3, 4, 0] rfl ?_
        have hi53 : ∀ (n9_59 : Nat) (l7 : Int32) (s51 : St), ((Fm [93, 94, 102, 103, 147] [101, 102] σ s51) ∧ (gi s51 84 32 = gi σ 84 32) ∧ (gl s51 84 164 = gl σ 84 164) ∧ (gl s51 84 101 = gl s12 84 101) ∧ (0 ≤ l7.toInt) ∧ (True)) → (2147483647 - l7.toInt).toNat = n9_59 → WA G M_X12_cutRow (ZM G M_X12_cutRow d (fun r σ' => ∃ x : Bool, r = some (.int (bI x)) ∧ Fm [93, 94, 102, 103, 147] [101, 102] σ σ' ∧ True)) B_X12_cutRow_59 [(0, .ref 84), (1, .int a0), (4, .long x8), (6, .int l6), (7, .int l7)] [] s51 := by
          intro n9_59
          induction n9_59 using Nat.strongRecOn with
          | _ n9_59 ih52 =>
            intro l7 s51 i9 m9_59
            obtain ⟨Fs51, khi53_0, khi53_1, khi53_2, jhi53_0, -⟩ := i9
            have ul7 := Int32.toInt_lt l7
            have wl7 := Int32.le_toInt l7
            refine wa_iload rfl ?_
            refine wa_iconst (v := 4) (by decide) ?_
            refine wa_icmp_ge o_X12_cutRow_94 (by decide) (fun h54 => ?_) (fun h54 => ?_)
            · refine wa_aload_n (i := 0) rfl rfl ?_
              refine wa_Vl (d9 := d - 1) [] [] (sp_X12_determinant G (d := d - 1) (by omega) s51  (by rw [khi53_0]; first | assumption | exact Or.inl rfl | exact Or.inr rfl | (((try simp only [vp_in_iff, Int32.lt_iff_toInt_lt, Int32.le_iff_toInt_le, ← Int32.toInt_inj, Int32.reduceToInt, n_1, n_2, n_8, Int32.toNatClampNeg, Int64.lt_iff_toInt_lt, Int64.le_iff_toInt_le, ← Int64.toInt_inj, Int64.reduceToInt, Int32.toInt_toInt64, lg_cmp_ge, lg_cmp_le, lg_cmp_gt, lg_cmp_lt, lg_cmp_eq, Bool.false_eq_true, Bool.true_eq_false, reduceCtorEq, false_iff, true_iff, iff_true, iff_false, and_true, true_and, and_false, false_and, reduceIte, ite_true, ite_false, eq_self] at *)) <;> omega))) (rfl) rfl rfl (zr (by omega)) mk_X12_determinant ly_84 ml_12_1093 (Nat.le_of_ble_eq_true rfl) (fun x56 s55 hs55 => ?_)
              obtain ⟨zs55, -⟩ := pL hs55
              subst zs55
              refine wa_lstoreD (lv' := [(7, .long x56), (0, .ref 84), (1, .int a0), (4, .long x8), (6, .int l6)]) (by decide) rfl ?_
              refine wa_lload rfl ?_
              refine wa_lconst (v := 0) (by decide) ?_
              refine wa_lcmp ?_
              refine wa_top (fun v57 hv57 => ?_)
              have tv57 := i_cmpT hv57
              clear hv57
              refine wa_if_ge o_X12_cutRow_121 (by decide) (fun h58 => ?_) (fun h58 => ?_)
              · refine wa_lload rfl ?_
                refine wa_lload rfl ?_
                refine wa_Sl (d9 := d - 1) [.long _, .long _] [] (sp_X12_floor G (d := d - 1) (by omega) s51 _ _) (rfl) rfl rfl (zr (by omega)) mk_X12_floor ml_12_1175 (Nat.le_of_ble_eq_true rfl) (fun x60 s59 hs59 => ?_)
                obtain ⟨zs59, -⟩ := pL hs59
                subst zs59
                refine wa_lstoreD (lv' := [(9, .long x60), (7, .long x56), (0, .ref 84), (1, .int a0), (4, .long x8), (6, .int l6)]) (by decide) rfl ?_
                refine wa_iconst (v := 0) (by decide) ?_
                refine wa_istoreD (lv' := [(11, .int 0), (9, .long x60), (7, .long x56), (0, .ref 84), (1, .int a0), (4, .long x8), (6, .int l6)]) (by decide) rfl ?_
                refine wa_pick [3, 4, 5, 6, 1, 0] rfl ?_
                have hi63 : ∀ (n9_133 : Nat) (l11 : Int32) (s61 : St), ((Fm [93, 94, 102, 103, 147] [101, 102] σ s61) ∧ (gi s61 84 32 = gi σ 84 32) ∧ (gl s61 84 164 = gl σ 84 164) ∧ (gl s61 84 101 = gl s12 84 101) ∧ (0 ≤ l11.toInt) ∧ (True)) → (2147483647 - l11.toInt).toNat = n9_133 → WA G M_X12_cutRow (ZM G M_X12_cutRow d (fun r σ' => ∃ x : Bool, r = some (.int (bI x)) ∧ Fm [93, 94, 102, 103, 147] [101, 102] σ σ' ∧ True)) B_X12_cutRow_133 [(0, .ref 84), (1, .int a0), (4, .long x8), (6, .int l6), (9, .long x60), (11, .int l11)] [] s61 := by
                  intro n9_133
                  induction n9_133 using Nat.strongRecOn with
                  | _ n9_133 ih62 =>
                    intro l11 s61 i9 m9_133
                    obtain ⟨Fs61, khi63_0, khi63_1, khi63_2, jhi63_0, -⟩ := i9
                    have ul11 := Int32.toInt_lt l11
                    have wl11 := Int32.le_toInt l11
                    refine wa_iload rfl ?_
                    refine wa_iconst (v := 4) (by decide) ?_
                    refine wa_icmp_ge o_X12_cutRow_180 (by decide) (fun h64 => ?_) (fun h64 => ?_)
                    · refine wa_aload_n (i := 0) rfl rfl ?_
                      refine wa_aload_n (i := 0) rfl rfl ?_
                      refine wa_getl ck_12 fl_12_736 ly_84 ?_
                      refine wa_rwl (khi63_2) ?_
                      refine wa_lload rfl ?_
                      refine wa_aload_n (i := 0) rfl rfl ?_
                      refine wa_getr ck_12 fl_12_397 ly_84 rf_84_159 ?_
                      refine wa_aload_n (i := 0) rfl rfl ?_
                      refine wa_getr ck_12 fl_12_400 ly_84 rf_84_162 ?_
                      refine wa_iload rfl ?_
                      refine wa_iald ly_103 (by ((try simp only [vp_in_iff, Int32.lt_iff_toInt_lt, Int32.le_iff_toInt_le, ← Int32.toInt_inj, Int32.reduceToInt, n_1, n_2, n_8, Int32.toNatClampNeg, Int64.lt_iff_toInt_lt, Int64.le_iff_toInt_le, ← Int64.toInt_inj, Int64.reduceToInt, Int32.toInt_toInt64, lg_cmp_ge, lg_cmp_le, lg_cmp_gt, lg_cmp_lt, lg_cmp_eq, Bool.false_eq_true, Bool.true_eq_false, reduceCtorEq, false_iff, true_iff, iff_true, iff_false, and_true, true_and, and_false, false_and, reduceIte, ite_true, ite_false, eq_self] at *)) <;> omega) ?_
                      refine wa_lald ly_104 (by ((try simp only [vp_in_iff, Int32.lt_iff_toInt_lt, Int32.le_iff_toInt_le, ← Int32.toInt_inj, Int32.reduceToInt, n_1, n_2, n_8, Int32.toNatClampNeg, Int64.lt_iff_toInt_lt, Int64.le_iff_toInt_le, ← Int64.toInt_inj, Int64.reduceToInt, Int32.toInt_toInt64, lg_cmp_ge, lg_cmp_le, lg_cmp_gt, lg_cmp_lt, lg_cmp_eq, Bool.false_eq_true, Bool.true_eq_false, reduceCtorEq, false_iff, true_iff, iff_true, iff_false, and_true, true_and, and_false, false_and, reduceIte, ite_true, ite_false, eq_self] at *)) <;> omega) ?_
                      refine wa_lmul ?_
                      refine wa_topl (fun v65 hv65 => ?_)
                      have tv65 := m_l_remU hv65
                      clear hv65
                      refine wa_lsub ?_
                      refine wa_topl (fun v66 hv66 => ?_)
                      have tv66 := s_l_remU hv66
                      clear hv66
                      refine wa_putl ck_12 fl_12_736 ly_84 (fun s67 hs67 => ?_)
                      have Fs67 : Fm [93, 94, 102, 103, 147] [101, 102] σ s67 := by rw [hs67]; exact Fm.sl Fs61 rfl
                      refine wa_iinc (v := (1)) (lv' := fun y68 => [(6, .int y68), (0, .ref 84), (1, .int a0), (4, .long x8), (9, .long x60), (11, .int l11)]) (by decide) rfl (by decide) (fun _ => rfl) (fun y68 hy68 => ?_)
                      have ty68 := i_addT hy68.symm
                      clear hy68
                      refine wa_goto o_X12_cutRow_43 (by decide) ?_
                      refine wa_pick [1, 2, 3, 0] rfl ?_
                      exact ih13 _ (by ((try simp only [vp_in_iff, Int32.lt_iff_toInt_lt, Int32.le_iff_toInt_le, ← Int32.toInt_inj, Int32.reduceToInt, n_1, n_2, n_8, Int32.toNatClampNeg, Int64.lt_iff_toInt_lt, Int64.le_iff_toInt_le, ← Int64.toInt_inj, Int64.reduceToInt, Int32.toInt_toInt64, lg_cmp_ge, lg_cmp_le, lg_cmp_gt, lg_cmp_lt, lg_cmp_eq, Bool.false_eq_true, Bool.true_eq_false, reduceCtorEq, false_iff, true_iff, iff_true, iff_false, and_true, true_and, and_false, false_and, reduceIte, ite_true, ite_false, eq_self] at *)) <;> omega) _ _ ⟨Fs67, ((nx_gi_sl hs67).trans (khi63_0)), ((nxk_gl_sl hs67 (by decide)).trans (khi63_1)), (by ((try simp only [vp_in_iff, Int32.lt_iff_toInt_lt, Int32.le_iff_toInt_le, ← Int32.toInt_inj, Int32.reduceToInt, n_1, n_2, n_8, Int32.toNatClampNeg, Int64.lt_iff_toInt_lt, Int64.le_iff_toInt_le, ← Int64.toInt_inj, Int64.reduceToInt, Int32.toInt_toInt64, lg_cmp_ge, lg_cmp_le, lg_cmp_gt, lg_cmp_lt, lg_cmp_eq, Bool.false_eq_true, Bool.true_eq_false, reduceCtorEq, false_iff, true_iff, iff_true, iff_false, and_true, true_and, and_false, false_and, reduceIte, ite_true, ite_false, eq_self] at *)) <;> omega), trivial⟩ rfl
                    · have mh64 := nle_mx h64
                      refine wa_aload_n (i := 0) rfl rfl ?_
                      refine wa_getr ck_12 fl_12_262 ly_84 rf_84_100 ?_
                      refine wa_iload rfl ?_
                      refine wa_aload_n (i := 0) rfl rfl ?_
                      refine wa_getr ck_12 fl_12_262 ly_84 rf_84_100 ?_
                      refine wa_iload rfl ?_
                      refine wa_lald ly_147 (by ((try simp only [vp_in_iff, Int32.lt_iff_toInt_lt, Int32.le_iff_toInt_le, ← Int32.toInt_inj, Int32.reduceToInt, n_1, n_2, n_8, Int32.toNatClampNeg, Int64.lt_iff_toInt_lt, Int64.le_iff_toInt_le, ← Int64.toInt_inj, Int64.reduceToInt, Int32.toInt_toInt64, lg_cmp_ge, lg_cmp_le, lg_cmp_gt, lg_cmp_lt, lg_cmp_eq, Bool.false_eq_true, Bool.true_eq_false, reduceCtorEq, false_iff, true_iff, iff_true, iff_false, and_true, true_and, and_false, false_and, reduceIte, ite_true, ite_false, eq_self] at *)) <;> omega) ?_
                      refine wa_lload rfl ?_
                      refine wa_aload_n (i := 0) rfl rfl ?_
                      refine wa_getr ck_12 fl_12_394 ly_84 rf_84_158 ?_
                      refine wa_iconst (v := 4) (by decide) ?_
                      refine wa_aload_n (i := 0) rfl rfl ?_
                      refine wa_getr ck_12 fl_12_400 ly_84 rf_84_162 ?_
                      refine wa_iload rfl ?_
                      refine wa_iald ly_103 (by ((try simp only [vp_in_iff, Int32.lt_iff_toInt_lt, Int32.le_iff_toInt_le, ← Int32.toInt_inj, Int32.reduceToInt, n_1, n_2, n_8, Int32.toNatClampNeg, Int64.lt_iff_toInt_lt, Int64.le_iff_toInt_le, ← Int64.toInt_inj, Int64.reduceToInt, Int32.toInt_toInt64, lg_cmp_ge, lg_cmp_le, lg_cmp_gt, lg_cmp_lt, lg_cmp_eq, Bool.false_eq_true, Bool.true_eq_false, reduceCtorEq, false_iff, true_iff, iff_true, iff_false, and_true, true_and, and_false, false_and, reduceIte, ite_true, ite_false, eq_self] at *)) <;> omega) ?_
                      refine wa_imul ?_
                      refine wa_top (fun v69 hv69 => ?_)
                      have tv69 := i_mulT hv69
                      clear hv69
                      refine wa_iload rfl ?_
                      refine wa_iadd ?_
                      refine wa_top (fun v70 hv70 => ?_)
                      have tv70 := i_addT hv70
                      clear hv70
                      refine wa_lald ly_105 (by ((try simp only [vp_in_iff, Int32.lt_iff_toInt_lt, Int32.le_iff_toInt_le, ← Int32.toInt_inj, Int32.reduceToInt, n_1, n_2, n_8, Int32.toNatClampNeg, Int64.lt_iff_toInt_lt, Int64.le_iff_toInt_le, ← Int64.toInt_inj, Int64.reduceToInt, Int32.toInt_toInt64, lg_cmp_ge, lg_cmp_le, lg_cmp_gt, lg_cmp_lt, lg_cmp_eq, Bool.false_eq_true, Bool.true_eq_false, reduceCtorEq, false_iff, true_iff, iff_true, iff_false, and_true, true_and, and_false, false_and, reduceIte, ite_true, ite_false, eq_self] at *)) <;> omega) ?_
                      refine wa_lmul ?_
                      refine wa_topl (fun v71 hv71 => ?_)
                      have tv71 := m_l_remU hv71
                      clear hv71
                      refine wa_lsub ?_
                      refine wa_topl (fun v72 hv72 => ?_)
                      have tv72 := s_l_remU hv72
                      clear hv72
                      refine wa_last ly_147 (by ((try simp only [vp_in_iff, Int32.lt_iff_toInt_lt, Int32.le_iff_toInt_le, ← Int32.toInt_inj, Int32.reduceToInt, n_1, n_2, n_8, Int32.toNatClampNeg, Int64.lt_iff_toInt_lt, Int64.le_iff_toInt_le, ← Int64.toInt_inj, Int64.reduceToInt, Int32.toInt_toInt64, lg_cmp_ge, lg_cmp_le, lg_cmp_gt, lg_cmp_lt, lg_cmp_eq, Bool.false_eq_true, Bool.true_eq_false, reduceCtorEq, false_iff, true_iff, iff_true, iff_false, and_true, true_and, and_false, false_and, reduceIte, ite_true, ite_false, eq_self] at *)) <;> omega) (fun s73 hs73 => ?_)
                      have Fs73 : Fm [93, 94, 102, 103, 147] [101, 102] σ s73 := by rw [hs73]; exact Fm.sl Fs61 rfl
                      refine wa_iinc (v := (1)) (lv' := fun y74 => [(11, .int y74), (0, .ref 84), (1, .int a0), (4, .long x8), (6, .int l6), (9, .long x60)]) (by decide) rfl (by decide) (fun _ => rfl) (fun y74 hy74 => ?_)
                      have ty74 := i_addT hy74.symm
                      clear hy74
                      refine wa_goto o_X12_cutRow_133 (by decide) ?_
                      refine wa_pick [1, 2, 3, 4, 5, 0] rfl ?_
                      exact ih62 _ (by ((try simp only [vp_in_iff, Int32.lt_iff_toInt_lt, Int32.le_iff_toInt_le, ← Int32.toInt_inj, Int32.reduceToInt, n_1, n_2, n_8, Int32.toNatClampNeg, Int64.lt_iff_toInt_lt, Int64.le_iff_toInt_le, ← Int64.toInt_inj, Int64.reduceToInt, Int32.toInt_toInt64, lg_cmp_ge, lg_cmp_le, lg_cmp_gt, lg_cmp_lt, lg_cmp_eq, Bool.false_eq_true, Bool.true_eq_false, reduceCtorEq, false_iff, true_iff, iff_true, iff_false, and_true, true_and, and_false, false_and, reduceIte, ite_true, ite_false, eq_self] at *)) <;> omega) _ _ ⟨Fs73, ((nx_gi_sl hs73).trans (khi63_0)), ((nxq_gl_sl hs73 (by decide)).trans (khi63_1)), ((nxq_gl_sl hs73 (by decide)).trans (khi63_2)), (by ((try simp only [vp_in_iff, Int32.lt_iff_toInt_lt, Int32.le_iff_toInt_le, ← Int32.toInt_inj, Int32.reduceToInt, n_1, n_2, n_8, Int32.toNatClampNeg, Int64.lt_iff_toInt_lt, Int64.le_iff_toInt_le, ← Int64.toInt_inj, Int64.reduceToInt, Int32.toInt_toInt64, lg_cmp_ge, lg_cmp_le, lg_cmp_gt, lg_cmp_lt, lg_cmp_eq, Bool.false_eq_true, Bool.true_eq_false, reduceCtorEq, false_iff, true_iff, iff_true, iff_false, and_true, true_and, and_false, false_and, reduceIte, ite_true, ite_false, eq_self] at *)) <;> omega), trivial⟩ rfl
                exact hi63 _ _ _ ⟨Fs51, (khi53_0), (khi53_1), (khi53_2), (by ((try simp only [vp_in_iff, Int32.lt_iff_toInt_lt, Int32.le_iff_toInt_le, ← Int32.toInt_inj, Int32.reduceToInt, n_1, n_2, n_8, Int32.toNatClampNeg, Int64.lt_iff_toInt_lt, Int64.le_iff_toInt_le, ← Int64.toInt_inj, Int64.reduceToInt, Int32.toInt_toInt64, lg_cmp_ge, lg_cmp_le, lg_cmp_gt, lg_cmp_lt, lg_cmp_eq, Bool.false_eq_true, Bool.true_eq_false, reduceCtorEq, false_iff, true_iff, iff_true, iff_false, and_true, true_and, and_false, false_and, reduceIte, ite_true, ite_false, eq_self] at *)) <;> omega), trivial⟩ rfl
              · refine wa_lconst (v := 0) (by decide) ?_
                refine wa_lload rfl ?_
                refine wa_lsub ?_
                refine wa_topl (fun v75 hv75 => ?_)
                have tv75 := s_l_remU hv75
                clear hv75
                refine wa_lconst (v := 0) (by decide) ?_
                refine wa_lload rfl ?_
                refine wa_lsub ?_
                refine wa_topl (fun v76 hv76 => ?_)
                have tv76 := s_l_remU hv76
                clear hv76
                refine wa_Sl (d9 := d - 1) [.long _, .long _] [] (sp_X12_floor G (d := d - 1) (by omega) s51 _ _) (rfl) rfl rfl (zr (by omega)) mk_X12_floor ml_12_1175 (Nat.le_of_ble_eq_true rfl) (fun x78 s77 hs77 => ?_)
                obtain ⟨zs77, -⟩ := pL hs77
                subst zs77
                refine wa_goto o_X12_cutRow_128 (by decide) ?_
                refine wa_lstoreD (lv' := [(9, .long x78), (7, .long x56), (0, .ref 84), (1, .int a0), (4, .long x8), (6, .int l6)]) (by decide) rfl ?_
                refine wa_iconst (v := 0) (by decide) ?_
                refine wa_istoreD (lv' := [(11, .int 0), (9, .long x78), (7, .long x56), (0, .ref 84), (1, .int a0), (4, .long x8), (6, .int l6)]) (by decide) rfl ?_
                refine wa_pick [3, 4, 5, 6, 1, 0] rfl ?_
                have hi81 : ∀ (n9_133 : Nat) (l11 : Int32) (s79 : St), ((Fm [93, 94, 102, 103, 147] [101, 102] σ s79) ∧ (gi s79 84 32 = gi σ 84 32) ∧ (gl s79 84 164 = gl σ 84 164) ∧ (gl s79 84 101 = gl s12 84 101) ∧ (0 ≤ l11.toInt) ∧ (True)) → (2147483647 - l11.toInt).toNat = n9_133 → WA G M_X12_cutRow (ZM G M_X12_cutRow d (fun r σ' => ∃ x : Bool, r = some (.int (bI x)) ∧ Fm [93, 94, 102, 103, 147] [101, 102] σ σ' ∧ True)) B_X12_cutRow_133 [(0, .ref 84), (1, .int a0), (4, .long x8), (6, .int l6), (9, .long x78), (11, .int l11)] [] s79 := by
                  intro n9_133
                  induction n9_133 using Nat.strongRecOn with
                  | _ n9_133 ih80 =>
                    intro l11 s79 i9 m9_133
                    obtain ⟨Fs79, khi81_0, khi81_1, khi81_2, jhi81_0, -⟩ := i9
                    have ul11 := Int32.toInt_lt l11
                    have wl11 := Int32.le_toInt l11
                    refine wa_iload rfl ?_
                    refine wa_iconst (v := 4) (by decide) ?_
                    refine wa_icmp_ge o_X12_cutRow_180 (by decide) (fun h82 => ?_) (fun h82 => ?_)
                    · refine wa_aload_n (i := 0) rfl rfl ?_
                      refine wa_aload_n (i := 0) rfl rfl ?_
                      refine wa_getl ck_12 fl_12_736 ly_84 ?_
                      refine wa_rwl (khi81_2) ?_
                      refine wa_lload rfl ?_
                      refine wa_aload_n (i := 0) rfl rfl ?_
                      refine wa_getr ck_12 fl_12_397 ly_84 rf_84_159 ?_
                      refine wa_aload_n (i := 0) rfl rfl ?_
                      refine wa_getr ck_12 fl_12_400 ly_84 rf_84_162 ?_
                      refine wa_iload rfl ?_
                      refine wa_iald ly_103 (by ((try simp only [vp_in_iff, Int32.lt_iff_toInt_lt, Int32.le_iff_toInt_le, ← Int32.toInt_inj, Int32.reduceToInt, n_1, n_2, n_8, Int32.toNatClampNeg, Int64.lt_iff_toInt_lt, Int64.le_iff_toInt_le, ← Int64.toInt_inj, Int64.reduceToInt, Int32.toInt_toInt64, lg_cmp_ge, lg_cmp_le, lg_cmp_gt, lg_cmp_lt, lg_cmp_eq, Bool.false_eq_true, Bool.true_eq_false, reduceCtorEq, false_iff, true_iff, iff_true, iff_false, and_true, true_and, and_false, false_and, reduceIte, ite_true, ite_false, eq_self] at *)) <;> omega) ?_
                      refine wa_lald ly_104 (by ((try simp only [vp_in_iff, Int32.lt_iff_toInt_lt, Int32.le_iff_toInt_le, ← Int32.toInt_inj, Int32.reduceToInt, n_1, n_2, n_8, Int32.toNatClampNeg, Int64.lt_iff_toInt_lt, Int64.le_iff_toInt_le, ← Int64.toInt_inj, Int64.reduceToInt, Int32.toInt_toInt64, lg_cmp_ge, lg_cmp_le, lg_cmp_gt, lg_cmp_lt, lg_cmp_eq, Bool.false_eq_true, Bool.true_eq_false, reduceCtorEq, false_iff, true_iff, iff_true, iff_false, and_true, true_and, and_false, false_and, reduceIte, ite_true, ite_false, eq_self] at *)) <;> omega) ?_
                      refine wa_lmul ?_
                      refine wa_topl (fun v83 hv83 => ?_)
                      have tv83 := m_l_remU hv83
                      clear hv83
                      refine wa_lsub ?_
                      refine wa_topl (fun v84 hv84 => ?_)
                      have tv84 := s_l_remU hv84
                      clear hv84
                      refine wa_putl ck_12 fl_12_736 ly_84 (fun s85 hs85 => ?_)
                      have Fs85 : Fm [93, 94, 102, 103, 147] [101, 102] σ s85 := by rw [hs85]; exact Fm.sl Fs79 rfl
                      refine wa_iinc (v := (1)) (lv' := fun y86 => [(6, .int y86), (0, .ref 84), (1, .int a0), (4, .long x8), (9, .long x78), (11, .int l11)]) (by decide) rfl (by decide) (fun _ => rfl) (fun y86 hy86 => ?_)
                      have ty86 := i_addT hy86.symm
                      clear hy86
                      refine wa_goto o_X12_cutRow_43 (by decide) ?_
                      refine wa_pick [1, 2, 3, 0] rfl ?_
                      exact ih13 _ (by ((try simp only [vp_in_iff, Int32.lt_iff_toInt_lt, Int32.le_iff_toInt_le, ← Int32.toInt_inj, Int32.reduceToInt, n_1, n_2, n_8, Int32.toNatClampNeg, Int64.lt_iff_toInt_lt, Int64.le_iff_toInt_le, ← Int64.toInt_inj, Int64.reduceToInt, Int32.toInt_toInt64, lg_cmp_ge, lg_cmp_le, lg_cmp_gt, lg_cmp_lt, lg_cmp_eq, Bool.false_eq_true, Bool.true_eq_false, reduceCtorEq, false_iff, true_iff, iff_true, iff_false, and_true, true_and, and_false, false_and, reduceIte, ite_true, ite_false, eq_self] at *)) <;> omega) _ _ ⟨Fs85, ((nx_gi_sl hs85).trans (khi81_0)), ((nxk_gl_sl hs85 (by decide)).trans (khi81_1)), (by ((try simp only [vp_in_iff, Int32.lt_iff_toInt_lt, Int32.le_iff_toInt_le, ← Int32.toInt_inj, Int32.reduceToInt, n_1, n_2, n_8, Int32.toNatClampNeg, Int64.lt_iff_toInt_lt, Int64.le_iff_toInt_le, ← Int64.toInt_inj, Int64.reduceToInt, Int32.toInt_toInt64, lg_cmp_ge, lg_cmp_le, lg_cmp_gt, lg_cmp_lt, lg_cmp_eq, Bool.false_eq_true, Bool.true_eq_false, reduceCtorEq, false_iff, true_iff, iff_true, iff_false, and_true, true_and, and_false, false_and, reduceIte, ite_true, ite_false, eq_self] at *)) <;> omega), trivial⟩ rfl
                    · have mh82 := nle_mx h82
                      refine wa_aload_n (i := 0) rfl rfl ?_
                      refine wa_getr ck_12 fl_12_262 ly_84 rf_84_100 ?_
                      refine wa_iload rfl ?_
                      refine wa_aload_n (i := 0) rfl rfl ?_
                      refine wa_getr ck_12 fl_12_262 ly_84 rf_84_100 ?_
                      refine wa_iload rfl ?_
                      refine wa_lald ly_147 (by ((try simp only [vp_in_iff, Int32.lt_iff_toInt_lt, Int32.le_iff_toInt_le, ← Int32.toInt_inj, Int32.reduceToInt, n_1, n_2, n_8, Int32.toNatClampNeg, Int64.lt_iff_toInt_lt, Int64.le_iff_toInt_le, ← Int64.toInt_inj, Int64.reduceToInt, Int32.toInt_toInt64, lg_cmp_ge, lg_cmp_le, lg_cmp_gt, lg_cmp_lt, lg_cmp_eq, Bool.false_eq_true, Bool.true_eq_false, reduceCtorEq, false_iff, true_iff, iff_true, iff_false, and_true, true_and, and_false, false_and, reduceIte, ite_true, ite_false, eq_self] at *)) <;> omega) ?_
                      refine wa_lload rfl ?_
                      refine wa_aload_n (i := 0) rfl rfl ?_
                      refine wa_getr ck_12 fl_12_394 ly_84 rf_84_158 ?_
                      refine wa_iconst (v := 4) (by decide) ?_
                      refine wa_aload_n (i := 0) rfl rfl ?_
                      refine wa_getr ck_12 fl_12_400 ly_84 rf_84_162 ?_
                      refine wa_iload rfl ?_
                      refine wa_iald ly_103 (by ((try simp only [vp_in_iff, Int32.lt_iff_toInt_lt, Int32.le_iff_toInt_le, ← Int32.toInt_inj, Int32.reduceToInt, n_1, n_2, n_8, Int32.toNatClampNeg, Int64.lt_iff_toInt_lt, Int64.le_iff_toInt_le, ← Int64.toInt_inj, Int64.reduceToInt, Int32.toInt_toInt64, lg_cmp_ge, lg_cmp_le, lg_cmp_gt, lg_cmp_lt, lg_cmp_eq, Bool.false_eq_true, Bool.true_eq_false, reduceCtorEq, false_iff, true_iff, iff_true, iff_false, and_true, true_and, and_false, false_and, reduceIte, ite_true, ite_false, eq_self] at *)) <;> omega) ?_
                      refine wa_imul ?_
                      refine wa_top (fun v87 hv87 => ?_)
                      have tv87 := i_mulT hv87
                      clear hv87
                      refine wa_iload rfl ?_
                      refine wa_iadd ?_
                      refine wa_top (fun v88 hv88 => ?_)
                      have tv88 := i_addT hv88
                      clear hv88
                      refine wa_lald ly_105 (by ((try simp only [vp_in_iff, Int32.lt_iff_toInt_lt, Int32.le_iff_toInt_le, ← Int32.toInt_inj, Int32.reduceToInt, n_1, n_2, n_8, Int32.toNatClampNeg, Int64.lt_iff_toInt_lt, Int64.le_iff_toInt_le, ← Int64.toInt_inj, Int64.reduceToInt, Int32.toInt_toInt64, lg_cmp_ge, lg_cmp_le, lg_cmp_gt, lg_cmp_lt, lg_cmp_eq, Bool.false_eq_true, Bool.true_eq_false, reduceCtorEq, false_iff, true_iff, iff_true, iff_false, and_true, true_and, and_false, false_and, reduceIte, ite_true, ite_false, eq_self] at *)) <;> omega) ?_
                      refine wa_lmul ?_
                      refine wa_topl (fun v89 hv89 => ?_)
                      have tv89 := m_l_remU hv89
                      clear hv89
                      refine wa_lsub ?_
                      refine wa_topl (fun v90 hv90 => ?_)
                      have tv90 := s_l_remU hv90
                      clear hv90
                      refine wa_last ly_147 (by ((try simp only [vp_in_iff, Int32.lt_iff_toInt_lt, Int32.le_iff_toInt_le, ← Int32.toInt_inj, Int32.reduceToInt, n_1, n_2, n_8, Int32.toNatClampNeg, Int64.lt_iff_toInt_lt, Int64.le_iff_toInt_le, ← Int64.toInt_inj, Int64.reduceToInt, Int32.toInt_toInt64, lg_cmp_ge, lg_cmp_le, lg_cmp_gt, lg_cmp_lt, lg_cmp_eq, Bool.false_eq_true, Bool.true_eq_false, reduceCtorEq, false_iff, true_iff, iff_true, iff_false, and_true, true_and, and_false, false_and, reduceIte, ite_true, ite_false, eq_self] at *)) <;> omega) (fun s91 hs91 => ?_)
                      have Fs91 : Fm [93, 94, 102, 103, 147] [101, 102] σ s91 := by rw [hs91]; exact Fm.sl Fs79 rfl
                      refine wa_iinc (v := (1)) (lv' := fun y92 => [(11, .int y92), (0, .ref 84), (1, .int a0), (4, .long x8), (6, .int l6), (9, .long x78)]) (by decide) rfl (by decide) (fun _ => rfl) (fun y92 hy92 => ?_)
                      have ty92 := i_addT hy92.symm
                      clear hy92
                      refine wa_goto o_X12_cutRow_133 (by decide) ?_
                      refine wa_pick [1, 2, 3, 4, 5, 0] rfl ?_
                      exact ih80 _ (by ((try simp only [vp_in_iff, Int32.lt_iff_toInt_lt, Int32.le_iff_toInt_le, ← Int32.toInt_inj, Int32.reduceToInt, n_1, n_2, n_8, Int32.toNatClampNeg, Int64.lt_iff_toInt_lt, Int64.le_iff_toInt_le, ← Int64.toInt_inj, Int64.reduceToInt, Int32.toInt_toInt64, lg_cmp_ge, lg_cmp_le, lg_cmp_gt, lg_cmp_lt, lg_cmp_eq, Bool.false_eq_true, Bool.true_eq_false, reduceCtorEq, false_iff, true_iff, iff_true, iff_false, and_true, true_and, and_false, false_and, reduceIte, ite_true, ite_false, eq_self] at *)) <;> omega) _ _ ⟨Fs91, ((nx_gi_sl hs91).trans (khi81_0)), ((nxq_gl_sl hs91 (by decide)).trans (khi81_1)), ((nxq_gl_sl hs91 (by decide)).trans (khi81_2)), (by ((try simp only [vp_in_iff, Int32.lt_iff_toInt_lt, Int32.le_iff_toInt_le, ← Int32.toInt_inj, Int32.reduceToInt, n_1, n_2, n_8, Int32.toNatClampNeg, Int64.lt_iff_toInt_lt, Int64.le_iff_toInt_le, ← Int64.toInt_inj, Int64.reduceToInt, Int32.toInt_toInt64, lg_cmp_ge, lg_cmp_le, lg_cmp_gt, lg_cmp_lt, lg_cmp_eq, Bool.false_eq_true, Bool.true_eq_false, reduceCtorEq, false_iff, true_iff, iff_true, iff_false, and_true, true_and, and_false, false_and, reduceIte, ite_true, ite_false, eq_self] at *)) <;> omega), trivial⟩ rfl
                exact hi81 _ _ _ ⟨Fs51, (khi53_0), (khi53_1), (khi53_2), (by ((try simp only [vp_in_iff, Int32.lt_iff_toInt_lt, Int32.le_iff_toInt_le, ← Int32.toInt_inj, Int32.reduceToInt, n_1, n_2, n_8, Int32.toNatClampNeg, Int64.lt_iff_toInt_lt, Int64.le_iff_toInt_le, ← Int64.toInt_inj, Int64.reduceToInt, Int32.toInt_toInt64, lg_cmp_ge, lg_cmp_le, lg_cmp_gt, lg_cmp_lt, lg_cmp_eq, Bool.false_eq_true, Bool.true_eq_false, reduceCtorEq, false_iff, true_iff, iff_true, iff_false, and_true, true_and, and_false, false_and, reduceIte, ite_true, ite_false, eq_self] at *)) <;> omega), trivial⟩ rfl
            · have mh54 := nle_mx h54
              refine wa_aload_n (i := 0) rfl rfl ?_
              refine wa_getr ck_12 fl_12_403 ly_84 rf_84_163 ?_
              refine wa_iconst (v := 4) (by decide) ?_
              refine wa_iload rfl ?_
              refine wa_imul ?_
              refine wa_top (fun v93 hv93 => ?_)
              have tv93 := i_mulT hv93
              clear hv93
              refine wa_iload rfl ?_
              refine wa_iadd ?_
              refine wa_top (fun v94 hv94 => ?_)
              have tv94 := i_addT hv94
              clear hv94
              refine wa_iload rfl ?_
              refine wa_iload_n (i := 1) rfl rfl ?_
              refine wa_icmp_ne o_X12_cutRow_86 (by decide) (fun h95 => ?_) (fun h95 => ?_)
              · refine wa_lconst (v := 0) (by decide) ?_
                refine wa_last ly_102 (by ((try simp only [vp_in_iff, Int32.lt_iff_toInt_lt, Int32.le_iff_toInt_le, ← Int32.toInt_inj, Int32.reduceToInt, n_1, n_2, n_8, Int32.toNatClampNeg, Int64.lt_iff_toInt_lt, Int64.le_iff_toInt_le, ← Int64.toInt_inj, Int64.reduceToInt, Int32.toInt_toInt64, lg_cmp_ge, lg_cmp_le, lg_cmp_gt, lg_cmp_lt, lg_cmp_eq, Bool.false_eq_true, Bool.true_eq_false, reduceCtorEq, false_iff, true_iff, iff_true, iff_false, and_true, true_and, and_false, false_and, reduceIte, ite_true, ite_false, eq_self] at *)) <;> omega) (fun s96 hs96 => ?_)
                have Fs96 : Fm [93, 94, 102, 103, 147] [101, 102] σ s96 := by rw [hs96]; exact Fm.sl Fs51 rfl
                refine wa_iinc (v := (1)) (lv' := fun y97 => [(7, .int y97), (0, .ref 84), (1, .int a0), (4, .long x8), (6, .int l6)]) (by decide) rfl (by decide) (fun _ => rfl) (fun y97 hy97 => ?_)
                have ty97 := i_addT hy97.symm
                clear hy97
                refine wa_goto o_X12_cutRow_59 (by decide) ?_
                refine wa_pick [1, 2, 3, 4, 0] rfl ?_
                exact ih52 _ (by ((try simp only [vp_in_iff, Int32.lt_iff_toInt_lt, Int32.le_iff_toInt_le, ← Int32.toInt_inj, Int32.reduceToInt, n_1, n_2, n_8, Int32.toNatClampNeg, Int64.lt_iff_toInt_lt, Int64.le_iff_toInt_le, ← Int64.toInt_inj, Int64.reduceToInt, Int32.toInt_toInt64, lg_cmp_ge, lg_cmp_le, lg_cmp_gt, lg_cmp_lt, lg_cmp_eq, Bool.false_eq_true, Bool.true_eq_false, reduceCtorEq, false_iff, true_iff, iff_true, iff_false, and_true, true_and, and_false, false_and, reduceIte, ite_true, ite_false, eq_self] at *)) <;> omega) _ _ ⟨Fs96, ((nx_gi_sl hs96).trans (khi53_0)), ((nxq_gl_sl hs96 (by decide)).trans (khi53_1)), ((nxq_gl_sl hs96 (by decide)).trans (khi53_2)), (by ((try simp only [vp_in_iff, Int32.lt_iff_toInt_lt, Int32.le_iff_toInt_le, ← Int32.toInt_inj, Int32.reduceToInt, n_1, n_2, n_8, Int32.toNatClampNeg, Int64.lt_iff_toInt_lt, Int64.le_iff_toInt_le, ← Int64.toInt_inj, Int64.reduceToInt, Int32.toInt_toInt64, lg_cmp_ge, lg_cmp_le, lg_cmp_gt, lg_cmp_lt, lg_cmp_eq, Bool.false_eq_true, Bool.true_eq_false, reduceCtorEq, false_iff, true_iff, iff_true, iff_false, and_true, true_and, and_false, false_and, reduceIte, ite_true, ite_false, eq_self] at *)) <;> omega), trivial⟩ rfl
              · refine wa_lconst (v := 1) (by decide) ?_
                refine wa_goto o_X12_cutRow_87 (by decide) ?_
                refine wa_last ly_102 (by ((try simp only [vp_in_iff, Int32.lt_iff_toInt_lt, Int32.le_iff_toInt_le, ← Int32.toInt_inj, Int32.reduceToInt, n_1, n_2, n_8, Int32.toNatClampNeg, Int64.lt_iff_toInt_lt, Int64.le_iff_toInt_le, ← Int64.toInt_inj, Int64.reduceToInt, Int32.toInt_toInt64, lg_cmp_ge, lg_cmp_le, lg_cmp_gt, lg_cmp_lt, lg_cmp_eq, Bool.false_eq_true, Bool.true_eq_false, reduceCtorEq, false_iff, true_iff, iff_true, iff_false, and_true, true_and, and_false, false_and, reduceIte, ite_true, ite_false, eq_self] at *)) <;> omega) (fun s98 hs98 => ?_)
                have Fs98 : Fm [93, 94, 102, 103, 147] [101, 102] σ s98 := by rw [hs98]; exact Fm.sl Fs51 rfl
                refine wa_iinc (v := (1)) (lv' := fun y99 => [(7, .int y99), (0, .ref 84), (1, .int a0), (4, .long x8), (6, .int l6)]) (by decide) rfl (by decide) (fun _ => rfl) (fun y99 hy99 => ?_)
                have ty99 := i_addT hy99.symm
                clear hy99
                refine wa_goto o_X12_cutRow_59 (by decide) ?_
                refine wa_pick [1, 2, 3, 4, 0] rfl ?_
                exact ih52 _ (by ((try simp only [vp_in_iff, Int32.lt_iff_toInt_lt, Int32.le_iff_toInt_le, ← Int32.toInt_inj, Int32.reduceToInt, n_1, n_2, n_8, Int32.toNatClampNeg, Int64.lt_iff_toInt_lt, Int64.le_iff_toInt_le, ← Int64.toInt_inj, Int64.reduceToInt, Int32.toInt_toInt64, lg_cmp_ge, lg_cmp_le, lg_cmp_gt, lg_cmp_lt, lg_cmp_eq, Bool.false_eq_true, Bool.true_eq_false, reduceCtorEq, false_iff, true_iff, iff_true, iff_false, and_true, true_and, and_false, false_and, reduceIte, ite_true, ite_false, eq_self] at *)) <;> omega) _ _ ⟨Fs98, ((nx_gi_sl hs98).trans (khi53_0)), ((nxq_gl_sl hs98 (by decide)).trans (khi53_1)), ((nxq_gl_sl hs98 (by decide)).trans (khi53_2)), (by ((try simp only [vp_in_iff, Int32.lt_iff_toInt_lt, Int32.le_iff_toInt_le, ← Int32.toInt_inj, Int32.reduceToInt, n_1, n_2, n_8, Int32.toNatClampNeg, Int64.lt_iff_toInt_lt, Int64.le_iff_toInt_le, ← Int64.toInt_inj, Int64.reduceToInt, Int32.toInt_toInt64, lg_cmp_ge, lg_cmp_le, lg_cmp_gt, lg_cmp_lt, lg_cmp_eq, Bool.false_eq_true, Bool.true_eq_false, reduceCtorEq, false_iff, true_iff, iff_true, iff_false, and_true, true_and, and_false, false_and, reduceIte, ite_true, ite_false, eq_self] at *)) <;> omega), trivial⟩ rfl
        exact hi53 _ _ _ ⟨Fs49, ((Fm.gi fs49 (q := 84) (k := 32) rfl rfl).trans (khi14_0)), ((Fm.gl fs49 (q := 84) (k := 164) rfl rfl).trans (khi14_1)), (Fm.gl fs49 (q := 84) (k := 101) rfl rfl), (by ((try simp only [vp_in_iff, Int32.lt_iff_toInt_lt, Int32.le_iff_toInt_le, ← Int32.toInt_inj, Int32.reduceToInt, n_1, n_2, n_8, Int32.toNatClampNeg, Int64.lt_iff_toInt_lt, Int64.le_iff_toInt_le, ← Int64.toInt_inj, Int64.reduceToInt, Int32.toInt_toInt64, lg_cmp_ge, lg_cmp_le, lg_cmp_gt, lg_cmp_lt, lg_cmp_eq, Bool.false_eq_true, Bool.true_eq_false, reduceCtorEq, false_iff, true_iff, iff_true, iff_false, and_true, true_and, and_false, false_and, reduceIte, ite_true, ite_false, eq_self] at *)) <;> omega), trivial⟩ rfl
  exact hi14 _ _ _ ⟨Fs11, ((nx_gi_sl hs11).trans ((Fm.gi fs9 (q := 84) (k := 32) rfl rfl).trans ((Fm.gi fs5 (q := 84) (k := 32) rfl rfl).trans (Fm.gi fs3 (q := 84) (k := 32) rfl rfl)))), ((nxq_gl_sl hs11 (by decide)).trans ((Fm.gl fs9 (q := 84) (k := 164) rfl rfl).trans ((Fm.gl fs5 (q := 84) (k := 164) rfl rfl).trans (Fm.gl fs3 (q := 84) (k := 164) rfl rfl)))), (by ((try simp only [vp_in_iff, Int32.lt_iff_toInt_lt, Int32.le_iff_toInt_le, ← Int32.toInt_inj, Int32.reduceToInt, n_1, n_2, n_8, Int32.toNatClampNeg, Int64.lt_iff_toInt_lt, Int64.le_iff_toInt_le, ← Int64.toInt_inj, Int64.reduceToInt, Int32.toInt_toInt64, lg_cmp_ge, lg_cmp_le, lg_cmp_gt, lg_cmp_lt, lg_cmp_eq, Bool.false_eq_true, Bool.true_eq_false, reduceCtorEq, false_iff, true_iff, iff_true, iff_false, and_true, true_and, and_false, false_and, reduceIte, ite_true, ite_false, eq_self] at *)) <;> omega), trivial⟩ rfl
set_option maxHeartbeats 4000000 in
theorem sp_X12_halves (G : kG9) {d : Nat} (hd : 1 ≤ d) (σ : St) (a0 : Int32) (r1 : 0 ≤ (gi σ 84 160).toInt ∧ (gi σ 84 160).toInt ≤ 599) : Ct G M_X12_halves d [.ref 84, .int a0] σ (fun r σ' => ∃ x : Int32, r = some (.int x) ∧ Fm [96, 97, 98, 104, 105, 147] [101, 102, 160, 175] σ σ' ∧ True) := by
  refine wa_start (by decide) rfl (Nat.le_of_ble_eq_true rfl) (lv := [(0, .ref 84), (1, .int a0)]) rfl o_X12_halves_0 rfl ?_
  have ua0 := Int32.toInt_lt a0
  have wa0 := Int32.le_toInt a0
  refine wa_aload_n (i := 0) rfl rfl ?_
  refine wa_getr ck_12 fl_12_406 ly_84 rf_84_165 ?_
  refine wa_iload_n (i := 1) rfl rfl ?_
  refine wa_lald ly_101 (by ((try simp only [vp_in_iff, Int32.lt_iff_toInt_lt, Int32.le_iff_toInt_le, ← Int32.toInt_inj, Int32.reduceToInt, n_1, n_2, n_8, Int32.toNatClampNeg, Int64.lt_iff_toInt_lt, Int64.le_iff_toInt_le, ← Int64.toInt_inj, Int64.reduceToInt, Int32.toInt_toInt64, lg_cmp_ge, lg_cmp_le, lg_cmp_gt, lg_cmp_lt, lg_cmp_eq, Bool.false_eq_true, Bool.true_eq_false, reduceCtorEq, false_iff, true_iff, iff_true, iff_false, and_true, true_and, and_false, false_and, reduceIte, ite_true, ite_false, eq_self] at *)) <;> omega) ?_
  refine wa_aload_n (i := 0) rfl rfl ?_
  refine wa_getl ck_12 fl_12_1097 ly_84 ?_
  refine wa_Sl (d9 := d - 1) [.long _, .long _] [] (sp_X12_floor G (d := d - 1) (by omega) σ _ _) (rfl) rfl rfl (zr (by omega)) mk_X12_floor ml_12_1175 (Nat.le_of_ble_eq_true rfl) (fun x2 s1 hs1 => ?_)
  obtain ⟨zs1, -⟩ := pL hs1
  subst zs1
  refine wa_lstore_nD (lv' := [(2, .long x2), (0, .ref 84), (1, .int a0)]) (i := 2) rfl (by decide) rfl ?_
  refine wa_lconst (v := 0) (by decide) ?_
  refine wa_lload_n (i := 2) rfl rfl ?_
  refine wa_lsub ?_
  refine wa_topl (fun v3 hv3 => ?_)
  have tv3 := s_l_remU hv3
  clear hv3
  refine wa_lconst (v := 1) (by decide) ?_
  refine wa_lsub ?_
  refine wa_topl (fun v4 hv4 => ?_)
  have tv4 := s_l_remU hv4
  clear hv4
  refine wa_Si (d9 := d - 1) [.long _] [] (sp_X12_isSmall G (d := d - 1) (by omega) σ _) (rfl) rfl rfl (zr (by omega)) mk_X12_isSmall ml_12_1185 (Nat.le_of_ble_eq_true rfl) (fun x6 s5 hs5 => ?_)
  obtain ⟨bx6, ex6, zs5, -⟩ := pB hs5
  subst ex6
  subst zs5
  refine wa_if_eq o_X12_halves_32 (by decide) (fun h7 => ?_) (fun h7 => ?_)
  · replace h7 := bI_f (b := bx6) (rfl) h7
    refine wa_iconst (v := 3) (by decide) ?_
    refine wa_ireturn rfl rfl ?_
    exact ⟨_, rfl, (Fm.rf [96, 97, 98, 104, 105, 147] [101, 102, 160, 175] σ), trivial⟩
  · replace h7 := bI_t (b := bx6) (rfl) h7
    refine wa_lload_n (i := 2) rfl rfl ?_
    refine wa_Si (d9 := d - 1) [.long _] [] (sp_X12_isSmall G (d := d - 1) (by omega) σ _) (rfl) rfl rfl (zr (by omega)) mk_X12_isSmall ml_12_1185 (Nat.le_of_ble_eq_true rfl) (fun x9 s8 hs8 => ?_)
    obtain ⟨bx9, ex9, zs8, -⟩ := pB hs8
    subst ex9
    subst zs8
    refine wa_if_ne o_X12_halves_34 (by decide) (fun h10 => ?_) (fun h10 => ?_)
    · replace h10 := bI_t (b := bx9) (rfl) h10
      refine wa_aload_n (i := 0) rfl rfl ?_
      refine wa_lconst (v := 0) (by decide) ?_
      refine wa_lload_n (i := 2) rfl rfl ?_
      refine wa_lsub ?_
      refine wa_topl (fun v11 hv11 => ?_)
      have tv11 := s_l_remU hv11
      clear hv11
      refine wa_lconst (v := 1) (by decide) ?_
      refine wa_lsub ?_
      refine wa_topl (fun v12 hv12 => ?_)
      have tv12 := s_l_remU hv12
      clear hv12
      refine wa_Vv (d9 := d - 1) [.long _] [] (sp_X12_clearHere G (d := d - 1) (by omega) σ _) (rfl) rfl rfl (zr (by omega)) mk_X12_clearHere ly_84 ml_12_771 (Nat.le_of_ble_eq_true rfl) (fun s13 hs13 => ?_)
      obtain ⟨fs13, -⟩ := hs13
      have Fs13 : Fm [96, 97, 98, 104, 105, 147] [101, 102, 160, 175] σ s13 := Fm.tr (Fm.rf [96, 97, 98, 104, 105, 147] [101, 102, 160, 175] σ) (Fm.wd fs13 rfl rfl)
      refine wa_aload_n (i := 0) rfl rfl ?_
      refine wa_getr ck_12 fl_12_262 ly_84 rf_84_100 ?_
      refine wa_iload_n (i := 1) rfl rfl ?_
      refine wa_ldc2 (v := (-1)) (allW_in (kT_12 _ (List.mem_of_getElem? (i := 97) rfl)) rfl) ?_
      refine wa_last ly_147 (by ((try simp only [vp_in_iff, Int32.lt_iff_toInt_lt, Int32.le_iff_toInt_le, ← Int32.toInt_inj, Int32.reduceToInt, n_1, n_2, n_8, Int32.toNatClampNeg, Int64.lt_iff_toInt_lt, Int64.le_iff_toInt_le, ← Int64.toInt_inj, Int64.reduceToInt, Int32.toInt_toInt64, lg_cmp_ge, lg_cmp_le, lg_cmp_gt, lg_cmp_lt, lg_cmp_eq, Bool.false_eq_true, Bool.true_eq_false, reduceCtorEq, false_iff, true_iff, iff_true, iff_false, and_true, true_and, and_false, false_and, reduceIte, ite_true, ite_false, eq_self] at *)) <;> omega) (fun s15 hs15 => ?_)
      have Fs15 : Fm [96, 97, 98, 104, 105, 147] [101, 102, 160, 175] σ s15 := by rw [hs15]; exact Fm.sl Fs13 rfl
      refine wa_aload_n (i := 0) rfl rfl ?_
      refine wa_Vv (d9 := d - 1) [] [] (sp_X12_addRow G (d := d - 1) (by omega) s15  (by rw [(nx_gi_sl hs15).trans (Fm.gi fs13 (q := 84) (k := 160) rfl rfl)]; first | assumption | exact Or.inl rfl | exact Or.inr rfl | (((try simp only [vp_in_iff, Int32.lt_iff_toInt_lt, Int32.le_iff_toInt_le, ← Int32.toInt_inj, Int32.reduceToInt, n_1, n_2, n_8, Int32.toNatClampNeg, Int64.lt_iff_toInt_lt, Int64.le_iff_toInt_le, ← Int64.toInt_inj, Int64.reduceToInt, Int32.toInt_toInt64, lg_cmp_ge, lg_cmp_le, lg_cmp_gt, lg_cmp_lt, lg_cmp_eq, Bool.false_eq_true, Bool.true_eq_false, reduceCtorEq, false_iff, true_iff, iff_true, iff_false, and_true, true_and, and_false, false_and, reduceIte, ite_true, ite_false, eq_self] at *)) <;> omega))) (rfl) rfl rfl (zr (by omega)) mk_X12_addRow ly_84 ml_12_1073 (Nat.le_of_ble_eq_true rfl) (fun s16 hs16 => ?_)
      obtain ⟨fs16, cx17_1, -⟩ := hs16
      have Fs16 : Fm [96, 97, 98, 104, 105, 147] [101, 102, 160, 175] σ s16 := Fm.tr Fs15 (Fm.wd fs16 rfl rfl)
      refine wa_aload_n (i := 0) rfl rfl ?_
      refine wa_Vv (d9 := d - 1) [] [] (sp_X12_pile G (d := d - 1) (by omega) s16 ) (rfl) rfl rfl (zr (by omega)) mk_X12_pile ly_84 ml_12_1211 (Nat.le_of_ble_eq_true rfl) (fun s18 hs18 => ?_)
      obtain ⟨fs18, -⟩ := hs18
      have Fs18 : Fm [96, 97, 98, 104, 105, 147] [101, 102, 160, 175] σ s18 := Fm.tr Fs16 (Fm.wd fs18 rfl rfl)
      refine wa_aload_n (i := 0) rfl rfl ?_
      refine wa_dup rfl ?_
      refine wa_geti ck_12 fl_12_1067 ly_84 ?_
      refine wa_rw (Fm.gi fs18 (q := 84) (k := 160) rfl rfl) ?_
      refine wa_iconst (v := 1) (by decide) ?_
      refine wa_isub ?_
      refine wa_top (fun v20 hv20 => ?_)
      have tv20 := i_subT hv20
      clear hv20
      refine wa_puti ck_12 fl_12_1067 ly_84 (fun s21 hs21 => ?_)
      have Fs21 : Fm [96, 97, 98, 104, 105, 147] [101, 102, 160, 175] σ s21 := by rw [hs21]; exact Fm.si Fs18 rfl
      refine wa_aload_n (i := 0) rfl rfl ?_
      refine wa_lload_n (i := 2) rfl rfl ?_
      refine wa_Vv (d9 := d - 1) [.long _] [] (sp_X12_clearHere G (d := d - 1) (by omega) s21 _) (rfl) rfl rfl (zr (by omega)) mk_X12_clearHere ly_84 ml_12_771 (Nat.le_of_ble_eq_true rfl) (fun s22 hs22 => ?_)
      obtain ⟨fs22, -⟩ := hs22
      have Fs22 : Fm [96, 97, 98, 104, 105, 147] [101, 102, 160, 175] σ s22 := Fm.tr Fs21 (Fm.wd fs22 rfl rfl)
      refine wa_aload_n (i := 0) rfl rfl ?_
      refine wa_getr ck_12 fl_12_262 ly_84 rf_84_100 ?_
      refine wa_iload_n (i := 1) rfl rfl ?_
      refine wa_lconst (v := 1) (by decide) ?_
      refine wa_last ly_147 (by ((try simp only [vp_in_iff, Int32.lt_iff_toInt_lt, Int32.le_iff_toInt_le, ← Int32.toInt_inj, Int32.reduceToInt, n_1, n_2, n_8, Int32.toNatClampNeg, Int64.lt_iff_toInt_lt, Int64.le_iff_toInt_le, ← Int64.toInt_inj, Int64.reduceToInt, Int32.toInt_toInt64, lg_cmp_ge, lg_cmp_le, lg_cmp_gt, lg_cmp_lt, lg_cmp_eq, Bool.false_eq_true, Bool.true_eq_false, reduceCtorEq, false_iff, true_iff, iff_true, iff_false, and_true, true_and, and_false, false_and, reduceIte, ite_true, ite_false, eq_self] at *)) <;> omega) (fun s24 hs24 => ?_)
      have Fs24 : Fm [96, 97, 98, 104, 105, 147] [101, 102, 160, 175] σ s24 := by rw [hs24]; exact Fm.sl Fs22 rfl
      refine wa_aload_n (i := 0) rfl rfl ?_
      refine wa_Vv (d9 := d - 1) [] [] (sp_X12_addRow G (d := d - 1) (by omega) s24  (by rw [(nx_gi_sl hs24).trans ((Fm.gi fs22 (q := 84) (k := 160) rfl rfl).trans (nxe_gi_si hs21))]; first | assumption | exact Or.inl rfl | exact Or.inr rfl | (((try simp only [vp_in_iff, Int32.lt_iff_toInt_lt, Int32.le_iff_toInt_le, ← Int32.toInt_inj, Int32.reduceToInt, n_1, n_2, n_8, Int32.toNatClampNeg, Int64.lt_iff_toInt_lt, Int64.le_iff_toInt_le, ← Int64.toInt_inj, Int64.reduceToInt, Int32.toInt_toInt64, lg_cmp_ge, lg_cmp_le, lg_cmp_gt, lg_cmp_lt, lg_cmp_eq, Bool.false_eq_true, Bool.true_eq_false, reduceCtorEq, false_iff, true_iff, iff_true, iff_false, and_true, true_and, and_false, false_and, reduceIte, ite_true, ite_false, eq_self] at *)) <;> omega))) (rfl) rfl rfl (zr (by omega)) mk_X12_addRow ly_84 ml_12_1073 (Nat.le_of_ble_eq_true rfl) (fun s25 hs25 => ?_)
      obtain ⟨fs25, cx26_1, -⟩ := hs25
      have Fs25 : Fm [96, 97, 98, 104, 105, 147] [101, 102, 160, 175] σ s25 := Fm.tr Fs24 (Fm.wd fs25 rfl rfl)
      refine wa_aload_n (i := 0) rfl rfl ?_
      refine wa_Vv (d9 := d - 1) [] [] (sp_X12_pile G (d := d - 1) (by omega) s25 ) (rfl) rfl rfl (zr (by omega)) mk_X12_pile ly_84 ml_12_1211 (Nat.le_of_ble_eq_true rfl) (fun s27 hs27 => ?_)
      obtain ⟨fs27, -⟩ := hs27
      have Fs27 : Fm [96, 97, 98, 104, 105, 147] [101, 102, 160, 175] σ s27 := Fm.tr Fs25 (Fm.wd fs27 rfl rfl)
      refine wa_iconst (v := 0) (by decide) ?_
      refine wa_ireturn rfl rfl ?_
      exact ⟨_, rfl, Fs27, trivial⟩
    · replace h10 := bI_f (b := bx9) (rfl) h10
      refine wa_iconst (v := 3) (by decide) ?_
      refine wa_ireturn rfl rfl ?_
      exact ⟨_, rfl, (Fm.rf [96, 97, 98, 104, 105, 147] [101, 102, 160, 175] σ), trivial⟩
set_option maxHeartbeats 4000000 in
theorem sp_X12_best (G : kG9) {d : Nat} (hd : 1 ≤ d) (σ : St) (a0 : Int32) : Ct G M_X12_best d [.ref 84, .int a0] σ (fun r σ' => ∃ x : Int64, r = some (.long x) ∧ Fm [] [0] σ σ' ∧ True) := by
  refine wa_start (by decide) rfl (Nat.le_of_ble_eq_true rfl) (lv := [(0, .ref 84), (1, .int a0)]) rfl o_X12_best_0 rfl ?_
  have ua0 := Int32.toInt_lt a0
  have wa0 := Int32.le_toInt a0
  refine wa_aload_n (i := 0) rfl rfl ?_
  refine wa_aload_n (i := 0) rfl rfl ?_
  refine wa_getz ck_12 fl_12_1214 ly_84 ?_
  refine wa_if_eq o_X12_best_24 (by decide) (fun h1 => ?_) (fun h1 => ?_)
  · replace h1 := bI_f (b := (gb σ 84 176)) (rfl) h1
    refine wa_iconst (v := 1) (by decide) ?_
    refine wa_puti ck_12 fl_12_3 ly_84 (fun s2 hs2 => ?_)
    have Fs2 : Fm [] [0] σ s2 := by rw [hs2]; exact Fm.si (Fm.rf [] [0] σ) rfl
    refine wa_aload_n (i := 0) rfl rfl ?_
    refine wa_geti ck_12 fl_12_3 ly_84 ?_
    refine wa_rw (nxe_gi_si hs2) ?_
    refine wa_if_le o_X12_best_37 (by decide) (fun h3 => ?_) (fun h3 => ?_)
    · refine wa_iload_n (i := 1) rfl rfl ?_
      refine wa_iconst (v := 1) (by decide) ?_
      refine wa_icmp_ne o_X12_best_48 (by decide) (fun h4 => ?_) (fun h4 => ?_)
      · refine wa_iload_n (i := 1) rfl rfl ?_
        refine wa_iconst (v := 2) (by decide) ?_
        refine wa_icmp_ne o_X12_best_59 (by decide) (fun h5 => ?_) (fun h5 => ?_)
        · refine wa_aload_n (i := 0) rfl rfl ?_
          refine wa_getz ck_12 fl_12_1193 ly_84 ?_
          refine wa_rw (congrArg bI (nx_gb_si hs2)) ?_
          refine wa_if_ne o_X12_best_70 (by decide) (fun h6 => ?_) (fun h6 => ?_)
          · replace h6 := bI_t (b := (gb σ 84 177)) (rfl) h6
            refine wa_iload_n (i := 1) rfl rfl ?_
            refine wa_if_ne o_X12_best_81 (by decide) (fun h7 => ?_) (fun h7 => ?_)
            · refine wa_aload_n (i := 0) rfl rfl ?_
              refine wa_getr ck_12 fl_12_426 ly_84 rf_84_181 ?_
              refine wa_iload_n (i := 1) rfl rfl ?_
              refine wa_iconst (v := 3) (by decide) ?_
              refine wa_isub ?_
              refine wa_top (fun v8 hv8 => ?_)
              have tv8 := i_subT hv8
              clear hv8
              refine wa_lald ly_95 (by ((try simp only [vp_in_iff, Int32.lt_iff_toInt_lt, Int32.le_iff_toInt_le, ← Int32.toInt_inj, Int32.reduceToInt, n_1, n_2, n_8, Int32.toNatClampNeg, Int64.lt_iff_toInt_lt, Int64.le_iff_toInt_le, ← Int64.toInt_inj, Int64.reduceToInt, Int32.toInt_toInt64, lg_cmp_ge, lg_cmp_le, lg_cmp_gt, lg_cmp_lt, lg_cmp_eq, Bool.false_eq_true, Bool.true_eq_false, reduceCtorEq, false_iff, true_iff, iff_true, iff_false, and_true, true_and, and_false, false_and, reduceIte, ite_true, ite_false, eq_self] at *)) <;> omega) ?_
              refine wa_lreturn rfl rfl ?_
              exact ⟨_, rfl, Fs2, trivial⟩
            · refine wa_aload_n (i := 0) rfl rfl ?_
              refine wa_getl ck_12 fl_12_1196 ly_84 ?_
              refine wa_rwl (nx_gl_si hs2) ?_
              refine wa_goto o_X12_best_89 (by decide) ?_
              refine wa_lreturn rfl rfl ?_
              exact ⟨_, rfl, Fs2, trivial⟩
          · replace h6 := bI_f (b := (gb σ 84 177)) (rfl) h6
            refine wa_lconst (v := 0) (by decide) ?_
            refine wa_goto o_X12_best_89 (by decide) ?_
            refine wa_lreturn rfl rfl ?_
            exact ⟨_, rfl, Fs2, trivial⟩
        · refine wa_aload_n (i := 0) rfl rfl ?_
          refine wa_geti ck_12 fl_12_1205 ly_84 ?_
          refine wa_rw (nxk_gi_si hs2 (by decide)) ?_
          refine wa_i2l ?_
          refine wa_lreturn rfl rfl ?_
          exact ⟨_, rfl, Fs2, trivial⟩
      · refine wa_aload_n (i := 0) rfl rfl ?_
        refine wa_geti ck_12 fl_12_1217 ly_84 ?_
        refine wa_rw (nxk_gi_si hs2 (by decide)) ?_
        refine wa_i2l ?_
        refine wa_lreturn rfl rfl ?_
        exact ⟨_, rfl, Fs2, trivial⟩
    · refine wa_lconst (v := 0) (by decide) ?_
      refine wa_lreturn rfl rfl ?_
      exact ⟨_, rfl, Fs2, trivial⟩
  · replace h1 := bI_t (b := (gb σ 84 176)) (rfl) h1
    refine wa_iload_n (i := 1) rfl rfl ?_
    refine wa_i2l ?_
    refine wa_lconst (v := 0) (by decide) ?_
    refine wa_ldc2 (v := (6)) (allW_in (kT_15 _ (List.mem_of_getElem? (i := 159) rfl)) rfl) ?_
    refine wa_Si (d9 := d - 1) [.long _, .long _, .long _] [.ref 84] (sp_X12_in G (d := d - 1) (by omega) σ _ _ _) (rfl) rfl rfl (zr (by omega)) mk_X12_in ml_12_504 (Nat.le_of_ble_eq_true rfl) (fun x10 s9 hs9 => ?_)
    obtain ⟨bx10, ex10, zs9, cx10_1, -⟩ := pB hs9
    subst ex10
    subst zs9
    refine wa_if_eq o_X12_best_24 (by decide) (fun h11 => ?_) (fun h11 => ?_)
    · replace h11 := bI_f (b := bx10) (rfl) h11
      have uh11_0 := iff_f cx10_1 h11
      refine wa_iconst (v := 1) (by decide) ?_
      refine wa_puti ck_12 fl_12_3 ly_84 (fun s12 hs12 => ?_)
      have Fs12 : Fm [] [0] σ s12 := by rw [hs12]; exact Fm.si (Fm.rf [] [0] σ) rfl
      refine wa_aload_n (i := 0) rfl rfl ?_
      refine wa_geti ck_12 fl_12_3 ly_84 ?_
      refine wa_rw (nxe_gi_si hs12) ?_
      refine wa_if_le o_X12_best_37 (by decide) (fun h13 => ?_) (fun h13 => ?_)
      · refine wa_iload_n (i := 1) rfl rfl ?_
        refine wa_iconst (v := 1) (by decide) ?_
        refine wa_icmp_ne o_X12_best_48 (by decide) (fun h14 => ?_) (fun h14 => ?_)
        · refine wa_iload_n (i := 1) rfl rfl ?_
          refine wa_iconst (v := 2) (by decide) ?_
          refine wa_icmp_ne o_X12_best_59 (by decide) (fun h15 => ?_) (fun h15 => ?_)
          · refine wa_aload_n (i := 0) rfl rfl ?_
            refine wa_getz ck_12 fl_12_1193 ly_84 ?_
            refine wa_rw (congrArg bI (nx_gb_si hs12)) ?_
            refine wa_if_ne o_X12_best_70 (by decide) (fun h16 => ?_) (fun h16 => ?_)
            · replace h16 := bI_t (b := (gb σ 84 177)) (rfl) h16
              refine wa_iload_n (i := 1) rfl rfl ?_
              refine wa_if_ne o_X12_best_81 (by decide) (fun h17 => ?_) (fun h17 => ?_)
              · refine wa_aload_n (i := 0) rfl rfl ?_
                refine wa_getr ck_12 fl_12_426 ly_84 rf_84_181 ?_
                refine wa_iload_n (i := 1) rfl rfl ?_
                refine wa_iconst (v := 3) (by decide) ?_
                refine wa_isub ?_
                refine wa_top (fun v18 hv18 => ?_)
                have tv18 := i_subT hv18
                clear hv18
                refine wa_lald ly_95 (by ((try simp only [vp_in_iff, Int32.lt_iff_toInt_lt, Int32.le_iff_toInt_le, ← Int32.toInt_inj, Int32.reduceToInt, n_1, n_2, n_8, Int32.toNatClampNeg, Int64.lt_iff_toInt_lt, Int64.le_iff_toInt_le, ← Int64.toInt_inj, Int64.reduceToInt, Int32.toInt_toInt64, lg_cmp_ge, lg_cmp_le, lg_cmp_gt, lg_cmp_lt, lg_cmp_eq, Bool.false_eq_true, Bool.true_eq_false, reduceCtorEq, false_iff, true_iff, iff_true, iff_false, and_true, true_and, and_false, false_and, reduceIte, ite_true, ite_false, eq_self] at *)) <;> omega) ?_
                refine wa_lreturn rfl rfl ?_
                exact ⟨_, rfl, Fs12, trivial⟩
              · refine wa_aload_n (i := 0) rfl rfl ?_
                refine wa_getl ck_12 fl_12_1196 ly_84 ?_
                refine wa_rwl (nx_gl_si hs12) ?_
                refine wa_goto o_X12_best_89 (by decide) ?_
                refine wa_lreturn rfl rfl ?_
                exact ⟨_, rfl, Fs12, trivial⟩
            · replace h16 := bI_f (b := (gb σ 84 177)) (rfl) h16
              refine wa_lconst (v := 0) (by decide) ?_
              refine wa_goto o_X12_best_89 (by decide) ?_
              refine wa_lreturn rfl rfl ?_
              exact ⟨_, rfl, Fs12, trivial⟩
          · refine wa_aload_n (i := 0) rfl rfl ?_
            refine wa_geti ck_12 fl_12_1205 ly_84 ?_
            refine wa_rw (nxk_gi_si hs12 (by decide)) ?_
            refine wa_i2l ?_
            refine wa_lreturn rfl rfl ?_
            exact ⟨_, rfl, Fs12, trivial⟩
        · refine wa_aload_n (i := 0) rfl rfl ?_
          refine wa_geti ck_12 fl_12_1217 ly_84 ?_
          refine wa_rw (nxk_gi_si hs12 (by decide)) ?_
          refine wa_i2l ?_
          refine wa_lreturn rfl rfl ?_
          exact ⟨_, rfl, Fs12, trivial⟩
      · refine wa_lconst (v := 0) (by decide) ?_
        refine wa_lreturn rfl rfl ?_
        exact ⟨_, rfl, Fs12, trivial⟩
    · replace h11 := bI_t (b := bx10) (rfl) h11
      have uh11_0 := iff_t cx10_1 h11
      refine wa_iconst (v := 0) (by decide) ?_
      refine wa_goto o_X12_best_25 (by decide) ?_
      refine wa_puti ck_12 fl_12_3 ly_84 (fun s19 hs19 => ?_)
      have Fs19 : Fm [] [0] σ s19 := by rw [hs19]; exact Fm.si (Fm.rf [] [0] σ) rfl
      refine wa_aload_n (i := 0) rfl rfl ?_
      refine wa_geti ck_12 fl_12_3 ly_84 ?_
      refine wa_rw (nxe_gi_si hs19) ?_
      refine wa_if_le o_X12_best_37 (by decide) (fun h20 => ?_) (fun h20 => ?_)
      · refine wa_iload_n (i := 1) rfl rfl ?_
        refine wa_iconst (v := 1) (by decide) ?_
        refine wa_icmp_ne o_X12_best_48 (by decide) (fun h21 => ?_) (fun h21 => ?_)
        · refine wa_iload_n (i := 1) rfl rfl ?_
          refine wa_iconst (v := 2) (by decide) ?_
          refine wa_icmp_ne o_X12_best_59 (by decide) (fun h22 => ?_) (fun h22 => ?_)
          · refine wa_aload_n (i := 0) rfl rfl ?_
            refine wa_getz ck_12 fl_12_1193 ly_84 ?_
            refine wa_rw (congrArg bI (nx_gb_si hs19)) ?_
            refine wa_if_ne o_X12_best_70 (by decide) (fun h23 => ?_) (fun h23 => ?_)
            · replace h23 := bI_t (b := (gb σ 84 177)) (rfl) h23
              refine wa_iload_n (i := 1) rfl rfl ?_
              refine wa_if_ne o_X12_best_81 (by decide) (fun h24 => ?_) (fun h24 => ?_)
              · refine wa_aload_n (i := 0) rfl rfl ?_
                refine wa_getr ck_12 fl_12_426 ly_84 rf_84_181 ?_
                refine wa_iload_n (i := 1) rfl rfl ?_
                refine wa_iconst (v := 3) (by decide) ?_
                refine wa_isub ?_
                refine wa_top (fun v25 hv25 => ?_)
                have tv25 := i_subT hv25
                clear hv25
                refine wa_lald ly_95 (by ((try simp only [vp_in_iff, Int32.lt_iff_toInt_lt, Int32.le_iff_toInt_le, ← Int32.toInt_inj, Int32.reduceToInt, n_1, n_2, n_8, Int32.toNatClampNeg, Int64.lt_iff_toInt_lt, Int64.le_iff_toInt_le, ← Int64.toInt_inj, Int64.reduceToInt, Int32.toInt_toInt64, lg_cmp_ge, lg_cmp_le, lg_cmp_gt, lg_cmp_lt, lg_cmp_eq, Bool.false_eq_true, Bool.true_eq_false, reduceCtorEq, false_iff, true_iff, iff_true, iff_false, and_true, true_and, and_false, false_and, reduceIte, ite_true, ite_false, eq_self] at *)) <;> omega) ?_
                refine wa_lreturn rfl rfl ?_
                exact ⟨_, rfl, Fs19, trivial⟩
              · refine wa_aload_n (i := 0) rfl rfl ?_
                refine wa_getl ck_12 fl_12_1196 ly_84 ?_
                refine wa_rwl (nx_gl_si hs19) ?_
                refine wa_goto o_X12_best_89 (by decide) ?_
                refine wa_lreturn rfl rfl ?_
                exact ⟨_, rfl, Fs19, trivial⟩
            · replace h23 := bI_f (b := (gb σ 84 177)) (rfl) h23
              refine wa_lconst (v := 0) (by decide) ?_
              refine wa_goto o_X12_best_89 (by decide) ?_
              refine wa_lreturn rfl rfl ?_
              exact ⟨_, rfl, Fs19, trivial⟩
          · refine wa_aload_n (i := 0) rfl rfl ?_
            refine wa_geti ck_12 fl_12_1205 ly_84 ?_
            refine wa_rw (nxk_gi_si hs19 (by decide)) ?_
            refine wa_i2l ?_
            refine wa_lreturn rfl rfl ?_
            exact ⟨_, rfl, Fs19, trivial⟩
        · refine wa_aload_n (i := 0) rfl rfl ?_
          refine wa_geti ck_12 fl_12_1217 ly_84 ?_
          refine wa_rw (nxk_gi_si hs19 (by decide)) ?_
          refine wa_i2l ?_
          refine wa_lreturn rfl rfl ?_
          exact ⟨_, rfl, Fs19, trivial⟩
      · refine wa_lconst (v := 0) (by decide) ?_
        refine wa_lreturn rfl rfl ?_
        exact ⟨_, rfl, Fs19, trivial⟩
set_option maxHeartbeats 4000000 in
theorem sp_X12_proofWord (G : kG9) {d : Nat} (hd : 5 ≤ d) (σ : St) (a0 : Int32) (r1 : 0 ≤ (gi σ 84 12).toInt ∧ (gi σ 84 12).toInt ≤ 2000) : Ct G M_X12_proofWord d [.ref 84, .int a0] σ (fun r σ' => ∃ x : Int32, r = some (.int x) ∧ σ = σ' ∧ True) := by
  refine wa_start (by decide) rfl (Nat.le_of_ble_eq_true rfl) (lv := [(0, .ref 84), (1, .int a0)]) rfl o_X12_proofWord_0 rfl ?_
  have ua0 := Int32.toInt_lt a0
  have wa0 := Int32.le_toInt a0
  refine wa_aload_n (i := 0) rfl rfl ?_
  refine wa_getr ck_12 fl_12_87 ly_84 rf_84_25 ?_
  refine wa_iload_n (i := 1) rfl rfl ?_
  refine wa_iald ly_205 (by ((try simp only [vp_in_iff, Int32.lt_iff_toInt_lt, Int32.le_iff_toInt_le, ← Int32.toInt_inj, Int32.reduceToInt, n_1, n_2, n_8, Int32.toNatClampNeg, Int64.lt_iff_toInt_lt, Int64.le_iff_toInt_le, ← Int64.toInt_inj, Int64.reduceToInt, Int32.toInt_toInt64, lg_cmp_ge, lg_cmp_le, lg_cmp_gt, lg_cmp_lt, lg_cmp_eq, Bool.false_eq_true, Bool.true_eq_false, reduceCtorEq, false_iff, true_iff, iff_true, iff_false, and_true, true_and, and_false, false_and, reduceIte, ite_true, ite_false, eq_self] at *)) <;> omega) ?_
  refine wa_iconst (v := 3) (by decide) ?_
  refine wa_icmp_eq o_X12_proofWord_12 (by decide) (fun h1 => ?_) (fun h1 => ?_)
  · refine wa_aload_n (i := 0) rfl rfl ?_
    refine wa_iload_n (i := 1) rfl rfl ?_
    refine wa_ldcTw kq_22 km_22 rfl rfl ?_
    refine wa_Vi (d9 := d - 1) [.int _, .ref (1000 + kq_22.1)] [] (sp_X12_isText G (d := d - 1) (by omega) σ _ kq_22 km_22 (by first | assumption | exact Or.inl rfl | exact Or.inr rfl | (((try simp only [vp_in_iff, Int32.lt_iff_toInt_lt, Int32.le_iff_toInt_le, ← Int32.toInt_inj, Int32.reduceToInt, n_1, n_2, n_8, Int32.toNatClampNeg, Int64.lt_iff_toInt_lt, Int64.le_iff_toInt_le, ← Int64.toInt_inj, Int64.reduceToInt, Int32.toInt_toInt64, lg_cmp_ge, lg_cmp_le, lg_cmp_gt, lg_cmp_lt, lg_cmp_eq, Bool.false_eq_true, Bool.true_eq_false, reduceCtorEq, false_iff, true_iff, iff_true, iff_false, and_true, true_and, and_false, false_and, reduceIte, ite_true, ite_false, eq_self] at *)) <;> omega))) (rfl) rfl rfl (zr (by omega)) mk_X12_isText ly_84 ml_12_612 (Nat.le_of_ble_eq_true rfl) (fun x3 s2 hs2 => ?_)
    obtain ⟨bx3, ex3, zs2, -⟩ := pB hs2
    subst ex3
    subst zs2
    refine wa_if_eq o_X12_proofWord_27 (by decide) (fun h4 => ?_) (fun h4 => ?_)
    · replace h4 := bI_f (b := bx3) (rfl) h4
      refine wa_aload_n (i := 0) rfl rfl ?_
      refine wa_iload_n (i := 1) rfl rfl ?_
      refine wa_ldcTw kq_23 km_23 rfl rfl ?_
      refine wa_Vi (d9 := d - 1) [.int _, .ref (1000 + kq_23.1)] [] (sp_X12_isText G (d := d - 1) (by omega) σ _ kq_23 km_23 (by first | assumption | exact Or.inl rfl | exact Or.inr rfl | (((try simp only [vp_in_iff, Int32.lt_iff_toInt_lt, Int32.le_iff_toInt_le, ← Int32.toInt_inj, Int32.reduceToInt, n_1, n_2, n_8, Int32.toNatClampNeg, Int64.lt_iff_toInt_lt, Int64.le_iff_toInt_le, ← Int64.toInt_inj, Int64.reduceToInt, Int32.toInt_toInt64, lg_cmp_ge, lg_cmp_le, lg_cmp_gt, lg_cmp_lt, lg_cmp_eq, Bool.false_eq_true, Bool.true_eq_false, reduceCtorEq, false_iff, true_iff, iff_true, iff_false, and_true, true_and, and_false, false_and, reduceIte, ite_true, ite_false, eq_self] at *)) <;> omega))) (rfl) rfl rfl (zr (by omega)) mk_X12_isText ly_84 ml_12_612 (Nat.le_of_ble_eq_true rfl) (fun x6 s5 hs5 => ?_)
      obtain ⟨bx6, ex6, zs5, -⟩ := pB hs5
      subst ex6
      subst zs5
      refine wa_if_eq o_X12_proofWord_42 (by decide) (fun h7 => ?_) (fun h7 => ?_)
      · replace h7 := bI_f (b := bx6) (rfl) h7
        refine wa_aload_n (i := 0) rfl rfl ?_
        refine wa_iload_n (i := 1) rfl rfl ?_
        refine wa_ldcTw kq_24 km_24 rfl rfl ?_
        refine wa_Vi (d9 := d - 1) [.int _, .ref (1000 + kq_24.1)] [] (sp_X12_isText G (d := d - 1) (by omega) σ _ kq_24 km_24 (by first | assumption | exact Or.inl rfl | exact Or.inr rfl | (((try simp only [vp_in_iff, Int32.lt_iff_toInt_lt, Int32.le_iff_toInt_le, ← Int32.toInt_inj, Int32.reduceToInt, n_1, n_2, n_8, Int32.toNatClampNeg, Int64.lt_iff_toInt_lt, Int64.le_iff_toInt_le, ← Int64.toInt_inj, Int64.reduceToInt, Int32.toInt_toInt64, lg_cmp_ge, lg_cmp_le, lg_cmp_gt, lg_cmp_lt, lg_cmp_eq, Bool.false_eq_true, Bool.true_eq_false, reduceCtorEq, false_iff, true_iff, iff_true, iff_false, and_true, true_and, and_false, false_and, reduceIte, ite_true, ite_false, eq_self] at *)) <;> omega))) (rfl) rfl rfl (zr (by omega)) mk_X12_isText ly_84 ml_12_612 (Nat.le_of_ble_eq_true rfl) (fun x9 s8 hs8 => ?_)
        obtain ⟨bx9, ex9, zs8, -⟩ := pB hs8
        subst ex9
        subst zs8
        refine wa_if_eq o_X12_proofWord_57 (by decide) (fun h10 => ?_) (fun h10 => ?_)
        · replace h10 := bI_f (b := bx9) (rfl) h10
          refine wa_aload_n (i := 0) rfl rfl ?_
          refine wa_iload_n (i := 1) rfl rfl ?_
          refine wa_ldcTw kq_25 km_25 rfl rfl ?_
          refine wa_Vi (d9 := d - 1) [.int _, .ref (1000 + kq_25.1)] [] (sp_X12_isText G (d := d - 1) (by omega) σ _ kq_25 km_25 (by first | assumption | exact Or.inl rfl | exact Or.inr rfl | (((try simp only [vp_in_iff, Int32.lt_iff_toInt_lt, Int32.le_iff_toInt_le, ← Int32.toInt_inj, Int32.reduceToInt, n_1, n_2, n_8, Int32.toNatClampNeg, Int64.lt_iff_toInt_lt, Int64.le_iff_toInt_le, ← Int64.toInt_inj, Int64.reduceToInt, Int32.toInt_toInt64, lg_cmp_ge, lg_cmp_le, lg_cmp_gt, lg_cmp_lt, lg_cmp_eq, Bool.false_eq_true, Bool.true_eq_false, reduceCtorEq, false_iff, true_iff, iff_true, iff_false, and_true, true_and, and_false, false_and, reduceIte, ite_true, ite_false, eq_self] at *)) <;> omega))) (rfl) rfl rfl (zr (by omega)) mk_X12_isText ly_84 ml_12_612 (Nat.le_of_ble_eq_true rfl) (fun x12 s11 hs11 => ?_)
          obtain ⟨bx12, ex12, zs11, -⟩ := pB hs11
          subst ex12
          subst zs11
          refine wa_if_eq o_X12_proofWord_72 (by decide) (fun h13 => ?_) (fun h13 => ?_)
          · replace h13 := bI_f (b := bx12) (rfl) h13
            refine wa_aload_n (i := 0) rfl rfl ?_
            refine wa_iload_n (i := 1) rfl rfl ?_
            refine wa_ldcTw kq_26 km_26 rfl rfl ?_
            refine wa_Vi (d9 := d - 1) [.int _, .ref (1000 + kq_26.1)] [] (sp_X12_isText G (d := d - 1) (by omega) σ _ kq_26 km_26 (by first | assumption | exact Or.inl rfl | exact Or.inr rfl | (((try simp only [vp_in_iff, Int32.lt_iff_toInt_lt, Int32.le_iff_toInt_le, ← Int32.toInt_inj, Int32.reduceToInt, n_1, n_2, n_8, Int32.toNatClampNeg, Int64.lt_iff_toInt_lt, Int64.le_iff_toInt_le, ← Int64.toInt_inj, Int64.reduceToInt, Int32.toInt_toInt64, lg_cmp_ge, lg_cmp_le, lg_cmp_gt, lg_cmp_lt, lg_cmp_eq, Bool.false_eq_true, Bool.true_eq_false, reduceCtorEq, false_iff, true_iff, iff_true, iff_false, and_true, true_and, and_false, false_and, reduceIte, ite_true, ite_false, eq_self] at *)) <;> omega))) (rfl) rfl rfl (zr (by omega)) mk_X12_isText ly_84 ml_12_612 (Nat.le_of_ble_eq_true rfl) (fun x15 s14 hs14 => ?_)
            obtain ⟨bx15, ex15, zs14, -⟩ := pB hs14
            subst ex15
            subst zs14
            refine wa_if_eq o_X12_proofWord_87 (by decide) (fun h16 => ?_) (fun h16 => ?_)
            · replace h16 := bI_f (b := bx15) (rfl) h16
              refine wa_aload_n (i := 0) rfl rfl ?_
              refine wa_iload_n (i := 1) rfl rfl ?_
              refine wa_ldcTw kq_27 km_27 rfl rfl ?_
              refine wa_Vi (d9 := d - 1) [.int _, .ref (1000 + kq_27.1)] [] (sp_X12_isText G (d := d - 1) (by omega) σ _ kq_27 km_27 (by first | assumption | exact Or.inl rfl | exact Or.inr rfl | (((try simp only [vp_in_iff, Int32.lt_iff_toInt_lt, Int32.le_iff_toInt_le, ← Int32.toInt_inj, Int32.reduceToInt, n_1, n_2, n_8, Int32.toNatClampNeg, Int64.lt_iff_toInt_lt, Int64.le_iff_toInt_le, ← Int64.toInt_inj, Int64.reduceToInt, Int32.toInt_toInt64, lg_cmp_ge, lg_cmp_le, lg_cmp_gt, lg_cmp_lt, lg_cmp_eq, Bool.false_eq_true, Bool.true_eq_false, reduceCtorEq, false_iff, true_iff, iff_true, iff_false, and_true, true_and, and_false, false_and, reduceIte, ite_true, ite_false, eq_self] at *)) <;> omega))) (rfl) rfl rfl (zr (by omega)) mk_X12_isText ly_84 ml_12_612 (Nat.le_of_ble_eq_true rfl) (fun x18 s17 hs17 => ?_)
              obtain ⟨bx18, ex18, zs17, -⟩ := pB hs17
              subst ex18
              subst zs17
              refine wa_if_eq o_X12_proofWord_103 (by decide) (fun h19 => ?_) (fun h19 => ?_)
              · replace h19 := bI_f (b := bx18) (rfl) h19
                refine wa_iconst (v := 0) (by decide) ?_
                refine wa_ireturn rfl rfl ?_
                exact ⟨_, rfl, rfl, trivial⟩
              · replace h19 := bI_t (b := bx18) (rfl) h19
                refine wa_bipush (v := 6) (by decide) ?_
                refine wa_goto o_X12_proofWord_104 (by decide) ?_
                refine wa_ireturn rfl rfl ?_
                exact ⟨_, rfl, rfl, trivial⟩
            · replace h16 := bI_t (b := bx15) (rfl) h16
              refine wa_iconst (v := 5) (by decide) ?_
              refine wa_goto o_X12_proofWord_104 (by decide) ?_
              refine wa_ireturn rfl rfl ?_
              exact ⟨_, rfl, rfl, trivial⟩
          · replace h13 := bI_t (b := bx12) (rfl) h13
            refine wa_iconst (v := 4) (by decide) ?_
            refine wa_goto o_X12_proofWord_104 (by decide) ?_
            refine wa_ireturn rfl rfl ?_
            exact ⟨_, rfl, rfl, trivial⟩
        · replace h10 := bI_t (b := bx9) (rfl) h10
          refine wa_iconst (v := 3) (by decide) ?_
          refine wa_goto o_X12_proofWord_104 (by decide) ?_
          refine wa_ireturn rfl rfl ?_
          exact ⟨_, rfl, rfl, trivial⟩
      · replace h7 := bI_t (b := bx6) (rfl) h7
        refine wa_iconst (v := 2) (by decide) ?_
        refine wa_goto o_X12_proofWord_104 (by decide) ?_
        refine wa_ireturn rfl rfl ?_
        exact ⟨_, rfl, rfl, trivial⟩
    · replace h4 := bI_t (b := bx3) (rfl) h4
      refine wa_iconst (v := 1) (by decide) ?_
      refine wa_goto o_X12_proofWord_104 (by decide) ?_
      refine wa_ireturn rfl rfl ?_
      exact ⟨_, rfl, rfl, trivial⟩
  · refine wa_iconst (v := 0) (by decide) ?_
    refine wa_ireturn rfl rfl ?_
    exact ⟨_, rfl, rfl, trivial⟩
set_option maxHeartbeats 4000000 in
theorem sp_X12_wantNumbers (G : kG9) {d : Nat} (hd : 2 ≤ d) (σ : St) (a0 : Int32) : Ct G M_X12_wantNumbers d [.ref 84, .int a0] σ (fun r σ' => Fm [] [28, 29, 30, 31] σ σ' ∧ True) := by
  refine wa_start (by decide) rfl (Nat.le_of_ble_eq_true rfl) (lv := [(0, .ref 84), (1, .int a0)]) rfl o_X12_wantNumbers_0 rfl ?_
  have ua0 := Int32.toInt_lt a0
  have wa0 := Int32.le_toInt a0
  refine wa_iconst (v := 0) (by decide) ?_
  refine wa_istore_nD (lv' := [(2, .int 0), (0, .ref 84), (1, .int a0)]) (i := 2) rfl (by decide) rfl ?_
  refine wa_pick [1, 2, 0] rfl ?_
  have hi3 : ∀ (n9_2 : Nat) (l2 : Int32) (s1 : St), ((Fm [] [28, 29, 30, 31] σ s1) ∧ (0 ≤ l2.toInt) ∧ (True)) → (2147483647 - l2.toInt).toNat = n9_2 → WA G M_X12_wantNumbers (ZM G M_X12_wantNumbers d (fun r σ' => Fm [] [28, 29, 30, 31] σ σ' ∧ True)) B_X12_wantNumbers_2 [(0, .ref 84), (1, .int a0), (2, .int l2)] [] s1 := by
    intro n9_2
    induction n9_2 using Nat.strongRecOn with
    | _ n9_2 ih2 =>
      intro l2 s1 i9 m9_2
      obtain ⟨Fs1, jhi3_0, -⟩ := i9
      have ul2 := Int32.toInt_lt l2
      have wl2 := Int32.le_toInt l2
      refine wa_iload_n (i := 2) rfl rfl ?_
      refine wa_iload_n (i := 1) rfl rfl ?_
      refine wa_icmp_ge o_X12_wantNumbers_50 (by decide) (fun h4 => ?_) (fun h4 => ?_)
      · refine wa_return (st := []) rfl rfl ?_
        exact ⟨Fs1, trivial⟩
      · have mh4 := nle_mx h4
        refine wa_aload_n (i := 0) rfl rfl ?_
        refine wa_getz ck_12 fl_12_562 ly_84 ?_
        refine wa_if_ne o_X12_wantNumbers_50 (by decide) (fun h5 => ?_) (fun h5 => ?_)
        · replace h5 := bI_t (b := (gb s1 84 31)) (rfl) h5
          refine wa_return (st := []) rfl rfl ?_
          exact ⟨Fs1, trivial⟩
        · replace h5 := bI_f (b := (gb s1 84 31)) (rfl) h5
          refine wa_aload_n (i := 0) rfl rfl ?_
          refine wa_getr ck_12 fl_12_87 ly_84 rf_84_25 ?_
          refine wa_aload_n (i := 0) rfl rfl ?_
          refine wa_geti ck_12 fl_12_597 ly_84 ?_
          refine wa_iald ly_205 (by ((try simp only [vp_in_iff, Int32.lt_iff_toInt_lt, Int32.le_iff_toInt_le, ← Int32.toInt_inj, Int32.reduceToInt, n_1, n_2, n_8, Int32.toNatClampNeg, Int64.lt_iff_toInt_lt, Int64.le_iff_toInt_le, ← Int64.toInt_inj, Int64.reduceToInt, Int32.toInt_toInt64, lg_cmp_ge, lg_cmp_le, lg_cmp_gt, lg_cmp_lt, lg_cmp_eq, Bool.false_eq_true, Bool.true_eq_false, reduceCtorEq, false_iff, true_iff, iff_true, iff_false, and_true, true_and, and_false, false_and, reduceIte, ite_true, ite_false, eq_self] at *)) <;> omega) ?_
          refine wa_iconst (v := 2) (by decide) ?_
          refine wa_icmp_eq o_X12_wantNumbers_34 (by decide) (fun h6 => ?_) (fun h6 => ?_)
          · refine wa_aload_n (i := 0) rfl rfl ?_
            refine wa_dup rfl ?_
            refine wa_geti ck_12 fl_12_597 ly_84 ?_
            refine wa_iconst (v := 1) (by decide) ?_
            refine wa_iadd ?_
            refine wa_top (fun v7 hv7 => ?_)
            have tv7 := i_addT hv7
            clear hv7
            refine wa_puti ck_12 fl_12_597 ly_84 (fun s8 hs8 => ?_)
            have Fs8 : Fm [] [28, 29, 30, 31] σ s8 := by rw [hs8]; exact Fm.si Fs1 rfl
            refine wa_iinc (v := (1)) (lv' := fun y9 => [(2, .int y9), (0, .ref 84), (1, .int a0)]) (by decide) rfl (by decide) (fun _ => rfl) (fun y9 hy9 => ?_)
            have ty9 := i_addT hy9.symm
            clear hy9
            refine wa_goto o_X12_wantNumbers_2 (by decide) ?_
            refine wa_pick [1, 2, 0] rfl ?_
            exact ih2 _ (by ((try simp only [vp_in_iff, Int32.lt_iff_toInt_lt, Int32.le_iff_toInt_le, ← Int32.toInt_inj, Int32.reduceToInt, n_1, n_2, n_8, Int32.toNatClampNeg, Int64.lt_iff_toInt_lt, Int64.le_iff_toInt_le, ← Int64.toInt_inj, Int64.reduceToInt, Int32.toInt_toInt64, lg_cmp_ge, lg_cmp_le, lg_cmp_gt, lg_cmp_lt, lg_cmp_eq, Bool.false_eq_true, Bool.true_eq_false, reduceCtorEq, false_iff, true_iff, iff_true, iff_false, and_true, true_and, and_false, false_and, reduceIte, ite_true, ite_false, eq_self] at *)) <;> omega) _ _ ⟨Fs8, (by ((try simp only [vp_in_iff, Int32.lt_iff_toInt_lt, Int32.le_iff_toInt_le, ← Int32.toInt_inj, Int32.reduceToInt, n_1, n_2, n_8, Int32.toNatClampNeg, Int64.lt_iff_toInt_lt, Int64.le_iff_toInt_le, ← Int64.toInt_inj, Int64.reduceToInt, Int32.toInt_toInt64, lg_cmp_ge, lg_cmp_le, lg_cmp_gt, lg_cmp_lt, lg_cmp_eq, Bool.false_eq_true, Bool.true_eq_false, reduceCtorEq, false_iff, true_iff, iff_true, iff_false, and_true, true_and, and_false, false_and, reduceIte, ite_true, ite_false, eq_self] at *)) <;> omega), trivial⟩ rfl
          · refine wa_aload_n (i := 0) rfl rfl ?_
            refine wa_Vv (d9 := d - 1) [] [] (sp_X12_cannot G (d := d - 1) (by omega) s1 ) (rfl) rfl rfl (zr (by omega)) mk_X12_cannot ly_84 ml_12_698 (Nat.le_of_ble_eq_true rfl) (fun s10 hs10 => ?_)
            obtain ⟨fs10, -⟩ := hs10
            have Fs10 : Fm [] [28, 29, 30, 31] σ s10 := Fm.tr Fs1 (Fm.wd fs10 rfl rfl)
            refine wa_goto o_X12_wantNumbers_44 (by decide) ?_
            refine wa_iinc (v := (1)) (lv' := fun y12 => [(2, .int y12), (0, .ref 84), (1, .int a0)]) (by decide) rfl (by decide) (fun _ => rfl) (fun y12 hy12 => ?_)
            have ty12 := i_addT hy12.symm
            clear hy12
            refine wa_goto o_X12_wantNumbers_2 (by decide) ?_
            refine wa_pick [1, 2, 0] rfl ?_
            exact ih2 _ (by ((try simp only [vp_in_iff, Int32.lt_iff_toInt_lt, Int32.le_iff_toInt_le, ← Int32.toInt_inj, Int32.reduceToInt, n_1, n_2, n_8, Int32.toNatClampNeg, Int64.lt_iff_toInt_lt, Int64.le_iff_toInt_le, ← Int64.toInt_inj, Int64.reduceToInt, Int32.toInt_toInt64, lg_cmp_ge, lg_cmp_le, lg_cmp_gt, lg_cmp_lt, lg_cmp_eq, Bool.false_eq_true, Bool.true_eq_false, reduceCtorEq, false_iff, true_iff, iff_true, iff_false, and_true, true_and, and_false, false_and, reduceIte, ite_true, ite_false, eq_self] at *)) <;> omega) _ _ ⟨Fs10, (by ((try simp only [vp_in_iff, Int32.lt_iff_toInt_lt, Int32.le_iff_toInt_le, ← Int32.toInt_inj, Int32.reduceToInt, n_1, n_2, n_8, Int32.toNatClampNeg, Int64.lt_iff_toInt_lt, Int64.le_iff_toInt_le, ← Int64.toInt_inj, Int64.reduceToInt, Int32.toInt_toInt64, lg_cmp_ge, lg_cmp_le, lg_cmp_gt, lg_cmp_lt, lg_cmp_eq, Bool.false_eq_true, Bool.true_eq_false, reduceCtorEq, false_iff, true_iff, iff_true, iff_false, and_true, true_and, and_false, false_and, reduceIte, ite_true, ite_false, eq_self] at *)) <;> omega), trivial⟩ rfl
  exact hi3 _ _ _ ⟨(Fm.rf [] [28, 29, 30, 31] σ), (by ((try simp only [vp_in_iff, Int32.lt_iff_toInt_lt, Int32.le_iff_toInt_le, ← Int32.toInt_inj, Int32.reduceToInt, n_1, n_2, n_8, Int32.toNatClampNeg, Int64.lt_iff_toInt_lt, Int64.le_iff_toInt_le, ← Int64.toInt_inj, Int64.reduceToInt, Int32.toInt_toInt64, lg_cmp_ge, lg_cmp_le, lg_cmp_gt, lg_cmp_lt, lg_cmp_eq, Bool.false_eq_true, Bool.true_eq_false, reduceCtorEq, false_iff, true_iff, iff_true, iff_false, and_true, true_and, and_false, false_and, reduceIte, ite_true, ite_false, eq_self] at *)) <;> omega), trivial⟩ rfl
set_option maxHeartbeats 4000000 in
theorem sp_X12_wantName (G : kG9) {d : Nat} (hd : 6 ≤ d) (σ : St) (r1 : 0 ≤ (gi σ 84 12).toInt ∧ (gi σ 84 12).toInt ≤ 2000) : Ct G M_X12_wantName d [.ref 84] σ (fun r σ' => Fm [] [28, 29, 30, 31] σ σ' ∧ True) := by
  refine wa_start (by decide) rfl (Nat.le_of_ble_eq_true rfl) (lv := [(0, .ref 84)]) rfl o_X12_wantName_0 rfl ?_
  refine wa_aload_n (i := 0) rfl rfl ?_
  refine wa_getr ck_12 fl_12_87 ly_84 rf_84_25 ?_
  refine wa_aload_n (i := 0) rfl rfl ?_
  refine wa_geti ck_12 fl_12_597 ly_84 ?_
  refine wa_iald ly_205 (by ((try simp only [vp_in_iff, Int32.lt_iff_toInt_lt, Int32.le_iff_toInt_le, ← Int32.toInt_inj, Int32.reduceToInt, n_1, n_2, n_8, Int32.toNatClampNeg, Int64.lt_iff_toInt_lt, Int64.le_iff_toInt_le, ← Int64.toInt_inj, Int64.reduceToInt, Int32.toInt_toInt64, lg_cmp_ge, lg_cmp_le, lg_cmp_gt, lg_cmp_lt, lg_cmp_eq, Bool.false_eq_true, Bool.true_eq_false, reduceCtorEq, false_iff, true_iff, iff_true, iff_false, and_true, true_and, and_false, false_and, reduceIte, ite_true, ite_false, eq_self] at *)) <;> omega) ?_
  refine wa_iconst (v := 3) (by decide) ?_
  refine wa_icmp_ne o_X12_wantName_24 (by decide) (fun h1 => ?_) (fun h1 => ?_)
  · refine wa_aload_n (i := 0) rfl rfl ?_
    refine wa_Vv (d9 := d - 1) [] [] (sp_X12_cannot G (d := d - 1) (by omega) σ ) (rfl) rfl rfl (zr (by omega)) mk_X12_cannot ly_84 ml_12_698 (Nat.le_of_ble_eq_true rfl) (fun s2 hs2 => ?_)
    obtain ⟨fs2, -⟩ := hs2
    have Fs2 : Fm [] [28, 29, 30, 31] σ s2 := Fm.tr (Fm.rf [] [28, 29, 30, 31] σ) (Fm.wd fs2 rfl rfl)
    refine wa_goto o_X12_wantName_41 (by decide) ?_
    refine wa_return (st := []) rfl rfl ?_
    exact ⟨Fs2, trivial⟩
  · refine wa_aload_n (i := 0) rfl rfl ?_
    refine wa_aload_n (i := 0) rfl rfl ?_
    refine wa_geti ck_12 fl_12_597 ly_84 ?_
    refine wa_Vi (d9 := d - 1) [.int _] [] (sp_X12_proofWord G (d := d - 1) (by omega) σ _ (by first | assumption | exact Or.inl rfl | exact Or.inr rfl | (((try simp only [vp_in_iff, Int32.lt_iff_toInt_lt, Int32.le_iff_toInt_le, ← Int32.toInt_inj, Int32.reduceToInt, n_1, n_2, n_8, Int32.toNatClampNeg, Int64.lt_iff_toInt_lt, Int64.le_iff_toInt_le, ← Int64.toInt_inj, Int64.reduceToInt, Int32.toInt_toInt64, lg_cmp_ge, lg_cmp_le, lg_cmp_gt, lg_cmp_lt, lg_cmp_eq, Bool.false_eq_true, Bool.true_eq_false, reduceCtorEq, false_iff, true_iff, iff_true, iff_false, and_true, true_and, and_false, false_and, reduceIte, ite_true, ite_false, eq_self] at *)) <;> omega))) (rfl) rfl rfl (zr (by omega)) mk_X12_proofWord ly_84 ml_12_1238 (Nat.le_of_ble_eq_true rfl) (fun x5 s4 hs4 => ?_)
    obtain ⟨zs4, -⟩ := pI hs4
    subst zs4
    refine wa_if_le o_X12_wantName_31 (by decide) (fun h6 => ?_) (fun h6 => ?_)
    · refine wa_aload_n (i := 0) rfl rfl ?_
      refine wa_dup rfl ?_
      refine wa_geti ck_12 fl_12_597 ly_84 ?_
      refine wa_iconst (v := 1) (by decide) ?_
      refine wa_iadd ?_
      refine wa_top (fun v7 hv7 => ?_)
      have tv7 := i_addT hv7
      clear hv7
      refine wa_puti ck_12 fl_12_597 ly_84 (fun s8 hs8 => ?_)
      have Fs8 : Fm [] [28, 29, 30, 31] σ s8 := by rw [hs8]; exact Fm.si (Fm.rf [] [28, 29, 30, 31] σ) rfl
      refine wa_return (st := []) rfl rfl ?_
      exact ⟨Fs8, trivial⟩
    · refine wa_aload_n (i := 0) rfl rfl ?_
      refine wa_Vv (d9 := d - 1) [] [] (sp_X12_cannot G (d := d - 1) (by omega) σ ) (rfl) rfl rfl (zr (by omega)) mk_X12_cannot ly_84 ml_12_698 (Nat.le_of_ble_eq_true rfl) (fun s9 hs9 => ?_)
      obtain ⟨fs9, -⟩ := hs9
      have Fs9 : Fm [] [28, 29, 30, 31] σ s9 := Fm.tr (Fm.rf [] [28, 29, 30, 31] σ) (Fm.wd fs9 rfl rfl)
      refine wa_goto o_X12_wantName_41 (by decide) ?_
      refine wa_return (st := []) rfl rfl ?_
      exact ⟨Fs9, trivial⟩
set_option maxHeartbeats 4000000 in
theorem sp_X12_readProofLine (G : kG9) {d : Nat} (hd : 7 ≤ d) (σ : St) (r1 : 0 ≤ (gi σ 84 12).toInt ∧ (gi σ 84 12).toInt ≤ 2000) : Ct G M_X12_readProofLine d [.ref 84] σ (fun r σ' => Fm [] [28, 29, 30, 31] σ σ' ∧ True) := by
  refine wa_start (by decide) rfl (Nat.le_of_ble_eq_true rfl) (lv := [(0, .ref 84)]) rfl o_X12_readProofLine_0 rfl ?_
  refine wa_aload_n (i := 0) rfl rfl ?_
  refine wa_aload_n (i := 0) rfl rfl ?_
  refine wa_geti ck_12 fl_12_597 ly_84 ?_
  refine wa_Vi (d9 := d - 1) [.int _] [] (sp_X12_proofWord G (d := d - 1) (by omega) σ _ (by first | assumption | exact Or.inl rfl | exact Or.inr rfl | (((try simp only [vp_in_iff, Int32.lt_iff_toInt_lt, Int32.le_iff_toInt_le, ← Int32.toInt_inj, Int32.reduceToInt, n_1, n_2, n_8, Int32.toNatClampNeg, Int64.lt_iff_toInt_lt, Int64.le_iff_toInt_le, ← Int64.toInt_inj, Int64.reduceToInt, Int32.toInt_toInt64, lg_cmp_ge, lg_cmp_le, lg_cmp_gt, lg_cmp_lt, lg_cmp_eq, Bool.false_eq_true, Bool.true_eq_false, reduceCtorEq, false_iff, true_iff, iff_true, iff_false, and_true, true_and, and_false, false_and, reduceIte, ite_true, ite_false, eq_self] at *)) <;> omega))) (rfl) rfl rfl (zr (by omega)) mk_X12_proofWord ly_84 ml_12_1238 (Nat.le_of_ble_eq_true rfl) (fun x2 s1 hs1 => ?_)
  obtain ⟨zs1, -⟩ := pI hs1
  subst zs1
  refine wa_istore_nD (lv' := [(1, .int x2), (0, .ref 84)]) (i := 1) rfl (by decide) rfl ?_
  refine wa_iload_n (i := 1) rfl rfl ?_
  refine wa_if_ne o_X12_readProofLine_18 (by decide) (fun h3 => ?_) (fun h3 => ?_)
  · refine wa_aload_n (i := 0) rfl rfl ?_
    refine wa_dup rfl ?_
    refine wa_geti ck_12 fl_12_597 ly_84 ?_
    refine wa_iconst (v := 1) (by decide) ?_
    refine wa_iadd ?_
    refine wa_top (fun v4 hv4 => ?_)
    have tv4 := i_addT hv4
    clear hv4
    refine wa_puti ck_12 fl_12_597 ly_84 (fun s5 hs5 => ?_)
    have Fs5 : Fm [] [28, 29, 30, 31] σ s5 := by rw [hs5]; exact Fm.si (Fm.rf [] [28, 29, 30, 31] σ) rfl
    refine wa_iload_n (i := 1) rfl rfl ?_
    refine wa_iconst (v := 1) (by decide) ?_
    refine wa_icmp_ne o_X12_readProofLine_56 (by decide) (fun h6 => ?_) (fun h6 => ?_)
    · refine wa_iload_n (i := 1) rfl rfl ?_
      refine wa_iconst (v := 2) (by decide) ?_
      refine wa_icmp_ne o_X12_readProofLine_69 (by decide) (fun h7 => ?_) (fun h7 => ?_)
      · refine wa_iload_n (i := 1) rfl rfl ?_
        refine wa_iconst (v := 3) (by decide) ?_
        refine wa_icmp_ne o_X12_readProofLine_82 (by decide) (fun h8 => ?_) (fun h8 => ?_)
        · refine wa_iload_n (i := 1) rfl rfl ?_
          refine wa_iconst (v := 4) (by decide) ?_
          refine wa_icmp_ne o_X12_readProofLine_133 (by decide) (fun h9 => ?_) (fun h9 => ?_)
          · refine wa_aload_n (i := 0) rfl rfl ?_
            refine wa_getz ck_12 fl_12_562 ly_84 ?_
            refine wa_rw (congrArg bI (nx_gb_si hs5)) ?_
            refine wa_if_ne o_X12_readProofLine_153 (by decide) (fun h10 => ?_) (fun h10 => ?_)
            · replace h10 := bI_t (b := (gb σ 84 31)) (rfl) h10
              refine wa_aload_n (i := 0) rfl rfl ?_
              refine wa_dup rfl ?_
              refine wa_geti ck_12 fl_12_597 ly_84 ?_
              refine wa_rw (nxe_gi_si hs5) ?_
              refine wa_iconst (v := 1) (by decide) ?_
              refine wa_iadd ?_
              refine wa_top (fun v11 hv11 => ?_)
              have tv11 := i_addT hv11
              clear hv11
              refine wa_puti ck_12 fl_12_597 ly_84 (fun s12 hs12 => ?_)
              have Fs12 : Fm [] [28, 29, 30, 31] σ s12 := by rw [hs12]; exact Fm.si Fs5 rfl
              refine wa_return (st := []) rfl rfl ?_
              exact ⟨Fs12, trivial⟩
            · replace h10 := bI_f (b := (gb σ 84 31)) (rfl) h10
              refine wa_aload_n (i := 0) rfl rfl ?_
              refine wa_bipush (v := 6) (by decide) ?_
              refine wa_Vi (d9 := d - 1) [.int _] [] (sp_X12_isSign G (d := d - 1) (by omega) s5 _) (rfl) rfl rfl (zr (by omega)) mk_X12_isSign ly_84 ml_12_672 (Nat.le_of_ble_eq_true rfl) (fun x14 s13 hs13 => ?_)
              obtain ⟨bx14, ex14, zs13, -⟩ := pB hs13
              subst ex14
              subst zs13
              refine wa_if_ne o_X12_readProofLine_153 (by decide) (fun h15 => ?_) (fun h15 => ?_)
              · replace h15 := bI_t (b := bx14) (rfl) h15
                refine wa_aload_n (i := 0) rfl rfl ?_
                refine wa_dup rfl ?_
                refine wa_geti ck_12 fl_12_597 ly_84 ?_
                refine wa_rw (nxe_gi_si hs5) ?_
                refine wa_iconst (v := 1) (by decide) ?_
                refine wa_iadd ?_
                refine wa_top (fun v16 hv16 => ?_)
                have tv16 := i_addT hv16
                clear hv16
                refine wa_puti ck_12 fl_12_597 ly_84 (fun s17 hs17 => ?_)
                have Fs17 : Fm [] [28, 29, 30, 31] σ s17 := by rw [hs17]; exact Fm.si Fs5 rfl
                refine wa_return (st := []) rfl rfl ?_
                exact ⟨Fs17, trivial⟩
              · replace h15 := bI_f (b := bx14) (rfl) h15
                refine wa_aload_n (i := 0) rfl rfl ?_
                refine wa_Vv (d9 := d - 1) [] [] (sp_X12_cannot G (d := d - 1) (by omega) s5 ) (rfl) rfl rfl (zr (by omega)) mk_X12_cannot ly_84 ml_12_698 (Nat.le_of_ble_eq_true rfl) (fun s18 hs18 => ?_)
                obtain ⟨fs18, -⟩ := hs18
                have Fs18 : Fm [] [28, 29, 30, 31] σ s18 := Fm.tr Fs5 (Fm.wd fs18 rfl rfl)
                refine wa_aload_n (i := 0) rfl rfl ?_
                refine wa_dup rfl ?_
                refine wa_geti ck_12 fl_12_597 ly_84 ?_
                refine wa_rw ((Fm.gi fs18 (q := 84) (k := 28) rfl rfl).trans (nxe_gi_si hs5)) ?_
                refine wa_iconst (v := 1) (by decide) ?_
                refine wa_iadd ?_
                refine wa_top (fun v20 hv20 => ?_)
                have tv20 := i_addT hv20
                clear hv20
                refine wa_puti ck_12 fl_12_597 ly_84 (fun s21 hs21 => ?_)
                have Fs21 : Fm [] [28, 29, 30, 31] σ s21 := by rw [hs21]; exact Fm.si Fs18 rfl
                refine wa_return (st := []) rfl rfl ?_
                exact ⟨Fs21, trivial⟩
          · refine wa_aload_n (i := 0) rfl rfl ?_
            refine wa_Vv (d9 := d - 1) [] [] (sp_X12_wantName G (d := d - 1) (by omega) s5  (by rw [nxk_gi_si hs5 (by decide)]; first | assumption | exact Or.inl rfl | exact Or.inr rfl | (((try simp only [vp_in_iff, Int32.lt_iff_toInt_lt, Int32.le_iff_toInt_le, ← Int32.toInt_inj, Int32.reduceToInt, n_1, n_2, n_8, Int32.toNatClampNeg, Int64.lt_iff_toInt_lt, Int64.le_iff_toInt_le, ← Int64.toInt_inj, Int64.reduceToInt, Int32.toInt_toInt64, lg_cmp_ge, lg_cmp_le, lg_cmp_gt, lg_cmp_lt, lg_cmp_eq, Bool.false_eq_true, Bool.true_eq_false, reduceCtorEq, false_iff, true_iff, iff_true, iff_false, and_true, true_and, and_false, false_and, reduceIte, ite_true, ite_false, eq_self] at *)) <;> omega))) (rfl) rfl rfl (zr (by omega)) mk_X12_wantName ly_84 ml_12_1241 (Nat.le_of_ble_eq_true rfl) (fun s22 hs22 => ?_)
            obtain ⟨fs22, -⟩ := hs22
            have Fs22 : Fm [] [28, 29, 30, 31] σ s22 := Fm.tr Fs5 (Fm.wd fs22 rfl rfl)
            refine wa_aload_n (i := 0) rfl rfl ?_
            refine wa_getz ck_12 fl_12_562 ly_84 ?_
            refine wa_if_ne o_X12_readProofLine_117 (by decide) (fun h24 => ?_) (fun h24 => ?_)
            · replace h24 := bI_t (b := (gb s22 84 31)) (rfl) h24
              refine wa_aload_n (i := 0) rfl rfl ?_
              refine wa_aload_n (i := 0) rfl rfl ?_
              refine wa_getz ck_12 fl_12_562 ly_84 ?_
              refine wa_if_eq o_X12_readProofLine_129 (by decide) (fun h25 => ?_) (fun h25 => ?_)
              · replace h25 := bI_f (b := (gb s22 84 31)) (rfl) h25
                refine wa_iconst (v := 1) (by decide) ?_
                refine wa_Vv (d9 := d - 1) [.int _] [] (sp_X12_wantNumbers G (d := d - 1) (by omega) s22 _) (rfl) rfl rfl (zr (by omega)) mk_X12_wantNumbers ly_84 ml_12_1244 (Nat.le_of_ble_eq_true rfl) (fun s26 hs26 => ?_)
                obtain ⟨fs26, -⟩ := hs26
                have Fs26 : Fm [] [28, 29, 30, 31] σ s26 := Fm.tr Fs22 (Fm.wd fs26 rfl rfl)
                refine wa_aload_n (i := 0) rfl rfl ?_
                refine wa_getz ck_12 fl_12_562 ly_84 ?_
                refine wa_if_ne o_X12_readProofLine_153 (by decide) (fun h28 => ?_) (fun h28 => ?_)
                · replace h28 := bI_t (b := (gb s26 84 31)) (rfl) h28
                  refine wa_aload_n (i := 0) rfl rfl ?_
                  refine wa_dup rfl ?_
                  refine wa_geti ck_12 fl_12_597 ly_84 ?_
                  refine wa_iconst (v := 1) (by decide) ?_
                  refine wa_iadd ?_
                  refine wa_top (fun v29 hv29 => ?_)
                  have tv29 := i_addT hv29
                  clear hv29
                  refine wa_puti ck_12 fl_12_597 ly_84 (fun s30 hs30 => ?_)
                  have Fs30 : Fm [] [28, 29, 30, 31] σ s30 := by rw [hs30]; exact Fm.si Fs26 rfl
                  refine wa_return (st := []) rfl rfl ?_
                  exact ⟨Fs30, trivial⟩
                · replace h28 := bI_f (b := (gb s26 84 31)) (rfl) h28
                  refine wa_aload_n (i := 0) rfl rfl ?_
                  refine wa_bipush (v := 6) (by decide) ?_
                  refine wa_Vi (d9 := d - 1) [.int _] [] (sp_X12_isSign G (d := d - 1) (by omega) s26 _) (rfl) rfl rfl (zr (by omega)) mk_X12_isSign ly_84 ml_12_672 (Nat.le_of_ble_eq_true rfl) (fun x32 s31 hs31 => ?_)
                  obtain ⟨bx32, ex32, zs31, -⟩ := pB hs31
                  subst ex32
                  subst zs31
                  refine wa_if_ne o_X12_readProofLine_153 (by decide) (fun h33 => ?_) (fun h33 => ?_)
                  · replace h33 := bI_t (b := bx32) (rfl) h33
                    refine wa_aload_n (i := 0) rfl rfl ?_
                    refine wa_dup rfl ?_
                    refine wa_geti ck_12 fl_12_597 ly_84 ?_
                    refine wa_iconst (v := 1) (by decide) ?_
                    refine wa_iadd ?_
                    refine wa_top (fun v34 hv34 => ?_)
                    have tv34 := i_addT hv34
                    clear hv34
                    refine wa_puti ck_12 fl_12_597 ly_84 (fun s35 hs35 => ?_)
                    have Fs35 : Fm [] [28, 29, 30, 31] σ s35 := by rw [hs35]; exact Fm.si Fs26 rfl
                    refine wa_return (st := []) rfl rfl ?_
                    exact ⟨Fs35, trivial⟩
                  · replace h33 := bI_f (b := bx32) (rfl) h33
                    refine wa_aload_n (i := 0) rfl rfl ?_
                    refine wa_Vv (d9 := d - 1) [] [] (sp_X12_cannot G (d := d - 1) (by omega) s26 ) (rfl) rfl rfl (zr (by omega)) mk_X12_cannot ly_84 ml_12_698 (Nat.le_of_ble_eq_true rfl) (fun s36 hs36 => ?_)
                    obtain ⟨fs36, -⟩ := hs36
                    have Fs36 : Fm [] [28, 29, 30, 31] σ s36 := Fm.tr Fs26 (Fm.wd fs36 rfl rfl)
                    refine wa_aload_n (i := 0) rfl rfl ?_
                    refine wa_dup rfl ?_
                    refine wa_geti ck_12 fl_12_597 ly_84 ?_
                    refine wa_rw (Fm.gi fs36 (q := 84) (k := 28) rfl rfl) ?_
                    refine wa_iconst (v := 1) (by decide) ?_
                    refine wa_iadd ?_
                    refine wa_top (fun v38 hv38 => ?_)
                    have tv38 := i_addT hv38
                    clear hv38
                    refine wa_puti ck_12 fl_12_597 ly_84 (fun s39 hs39 => ?_)
                    have Fs39 : Fm [] [28, 29, 30, 31] σ s39 := by rw [hs39]; exact Fm.si Fs36 rfl
                    refine wa_return (st := []) rfl rfl ?_
                    exact ⟨Fs39, trivial⟩
              · replace h25 := bI_t (b := (gb s22 84 31)) (rfl) h25
                refine wa_iconst (v := 0) (by decide) ?_
                refine wa_goto o_X12_readProofLine_130 (by decide) ?_
                refine wa_Vv (d9 := d - 1) [.int _] [] (sp_X12_wantNumbers G (d := d - 1) (by omega) s22 _) (rfl) rfl rfl (zr (by omega)) mk_X12_wantNumbers ly_84 ml_12_1244 (Nat.le_of_ble_eq_true rfl) (fun s40 hs40 => ?_)
                obtain ⟨fs40, -⟩ := hs40
                have Fs40 : Fm [] [28, 29, 30, 31] σ s40 := Fm.tr Fs22 (Fm.wd fs40 rfl rfl)
                refine wa_aload_n (i := 0) rfl rfl ?_
                refine wa_getz ck_12 fl_12_562 ly_84 ?_
                refine wa_if_ne o_X12_readProofLine_153 (by decide) (fun h42 => ?_) (fun h42 => ?_)
                · replace h42 := bI_t (b := (gb s40 84 31)) (rfl) h42
                  refine wa_aload_n (i := 0) rfl rfl ?_
                  refine wa_dup rfl ?_
                  refine wa_geti ck_12 fl_12_597 ly_84 ?_
                  refine wa_iconst (v := 1) (by decide) ?_
                  refine wa_iadd ?_
                  refine wa_top (fun v43 hv43 => ?_)
                  have tv43 := i_addT hv43
                  clear hv43
                  refine wa_puti ck_12 fl_12_597 ly_84 (fun s44 hs44 => ?_)
                  have Fs44 : Fm [] [28, 29, 30, 31] σ s44 := by rw [hs44]; exact Fm.si Fs40 rfl
                  refine wa_return (st := []) rfl rfl ?_
                  exact ⟨Fs44, trivial⟩
                · replace h42 := bI_f (b := (gb s40 84 31)) (rfl) h42
                  refine wa_aload_n (i := 0) rfl rfl ?_
                  refine wa_bipush (v := 6) (by decide) ?_
                  refine wa_Vi (d9 := d - 1) [.int _] [] (sp_X12_isSign G (d := d - 1) (by omega) s40 _) (rfl) rfl rfl (zr (by omega)) mk_X12_isSign ly_84 ml_12_672 (Nat.le_of_ble_eq_true rfl) (fun x46 s45 hs45 => ?_)
                  obtain ⟨bx46, ex46, zs45, -⟩ := pB hs45
                  subst ex46
                  subst zs45
                  refine wa_if_ne o_X12_readProofLine_153 (by decide) (fun h47 => ?_) (fun h47 => ?_)
                  · replace h47 := bI_t (b := bx46) (rfl) h47
                    refine wa_aload_n (i := 0) rfl rfl ?_
                    refine wa_dup rfl ?_
                    refine wa_geti ck_12 fl_12_597 ly_84 ?_
                    refine wa_iconst (v := 1) (by decide) ?_
                    refine wa_iadd ?_
                    refine wa_top (fun v48 hv48 => ?_)
                    have tv48 := i_addT hv48
                    clear hv48
                    refine wa_puti ck_12 fl_12_597 ly_84 (fun s49 hs49 => ?_)
                    have Fs49 : Fm [] [28, 29, 30, 31] σ s49 := by rw [hs49]; exact Fm.si Fs40 rfl
                    refine wa_return (st := []) rfl rfl ?_
                    exact ⟨Fs49, trivial⟩
                  · replace h47 := bI_f (b := bx46) (rfl) h47
                    refine wa_aload_n (i := 0) rfl rfl ?_
                    refine wa_Vv (d9 := d - 1) [] [] (sp_X12_cannot G (d := d - 1) (by omega) s40 ) (rfl) rfl rfl (zr (by omega)) mk_X12_cannot ly_84 ml_12_698 (Nat.le_of_ble_eq_true rfl) (fun s50 hs50 => ?_)
                    obtain ⟨fs50, -⟩ := hs50
                    have Fs50 : Fm [] [28, 29, 30, 31] σ s50 := Fm.tr Fs40 (Fm.wd fs50 rfl rfl)
                    refine wa_aload_n (i := 0) rfl rfl ?_
                    refine wa_dup rfl ?_
                    refine wa_geti ck_12 fl_12_597 ly_84 ?_
                    refine wa_rw (Fm.gi fs50 (q := 84) (k := 28) rfl rfl) ?_
                    refine wa_iconst (v := 1) (by decide) ?_
                    refine wa_iadd ?_
                    refine wa_top (fun v52 hv52 => ?_)
                    have tv52 := i_addT hv52
                    clear hv52
                    refine wa_puti ck_12 fl_12_597 ly_84 (fun s53 hs53 => ?_)
                    have Fs53 : Fm [] [28, 29, 30, 31] σ s53 := by rw [hs53]; exact Fm.si Fs50 rfl
                    refine wa_return (st := []) rfl rfl ?_
                    exact ⟨Fs53, trivial⟩
            · replace h24 := bI_f (b := (gb s22 84 31)) (rfl) h24
              refine wa_aload_n (i := 0) rfl rfl ?_
              refine wa_bipush (v := 9) (by decide) ?_
              refine wa_Vi (d9 := d - 1) [.int _] [] (sp_X12_isSign G (d := d - 1) (by omega) s22 _) (rfl) rfl rfl (zr (by omega)) mk_X12_isSign ly_84 ml_12_672 (Nat.le_of_ble_eq_true rfl) (fun x55 s54 hs54 => ?_)
              obtain ⟨bx55, ex55, zs54, -⟩ := pB hs54
              subst ex55
              subst zs54
              refine wa_if_eq o_X12_readProofLine_117 (by decide) (fun h56 => ?_) (fun h56 => ?_)
              · replace h56 := bI_f (b := bx55) (rfl) h56
                refine wa_aload_n (i := 0) rfl rfl ?_
                refine wa_aload_n (i := 0) rfl rfl ?_
                refine wa_getz ck_12 fl_12_562 ly_84 ?_
                refine wa_if_eq o_X12_readProofLine_129 (by decide) (fun h57 => ?_) (fun h57 => ?_)
                · replace h57 := bI_f (b := (gb s22 84 31)) (rfl) h57
                  refine wa_iconst (v := 1) (by decide) ?_
                  refine wa_Vv (d9 := d - 1) [.int _] [] (sp_X12_wantNumbers G (d := d - 1) (by omega) s22 _) (rfl) rfl rfl (zr (by omega)) mk_X12_wantNumbers ly_84 ml_12_1244 (Nat.le_of_ble_eq_true rfl) (fun s58 hs58 => ?_)
                  obtain ⟨fs58, -⟩ := hs58
                  have Fs58 : Fm [] [28, 29, 30, 31] σ s58 := Fm.tr Fs22 (Fm.wd fs58 rfl rfl)
                  refine wa_aload_n (i := 0) rfl rfl ?_
                  refine wa_getz ck_12 fl_12_562 ly_84 ?_
                  refine wa_if_ne o_X12_readProofLine_153 (by decide) (fun h60 => ?_) (fun h60 => ?_)
                  · replace h60 := bI_t (b := (gb s58 84 31)) (rfl) h60
                    refine wa_aload_n (i := 0) rfl rfl ?_
                    refine wa_dup rfl ?_
                    refine wa_geti ck_12 fl_12_597 ly_84 ?_
                    refine wa_iconst (v := 1) (by decide) ?_
                    refine wa_iadd ?_
                    refine wa_top (fun v61 hv61 => ?_)
                    have tv61 := i_addT hv61
                    clear hv61
                    refine wa_puti ck_12 fl_12_597 ly_84 (fun s62 hs62 => ?_)
                    have Fs62 : Fm [] [28, 29, 30, 31] σ s62 := by rw [hs62]; exact Fm.si Fs58 rfl
                    refine wa_return (st := []) rfl rfl ?_
                    exact ⟨Fs62, trivial⟩
                  · replace h60 := bI_f (b := (gb s58 84 31)) (rfl) h60
                    refine wa_aload_n (i := 0) rfl rfl ?_
                    refine wa_bipush (v := 6) (by decide) ?_
                    refine wa_Vi (d9 := d - 1) [.int _] [] (sp_X12_isSign G (d := d - 1) (by omega) s58 _) (rfl) rfl rfl (zr (by omega)) mk_X12_isSign ly_84 ml_12_672 (Nat.le_of_ble_eq_true rfl) (fun x64 s63 hs63 => ?_)
                    obtain ⟨bx64, ex64, zs63, -⟩ := pB hs63
                    subst ex64
                    subst zs63
                    refine wa_if_ne o_X12_readProofLine_153 (by decide) (fun h65 => ?_) (fun h65 => ?_)
                    · replace h65 := bI_t (b := bx64) (rfl) h65
                      refine wa_aload_n (i := 0) rfl rfl ?_
                      refine wa_dup rfl ?_
                      refine wa_geti ck_12 fl_12_597 ly_84 ?_
                      refine wa_iconst (v := 1) (by decide) ?_
                      refine wa_iadd ?_
                      refine wa_top (fun v66 hv66 => ?_)
                      have tv66 := i_addT hv66
                      clear hv66
                      refine wa_puti ck_12 fl_12_597 ly_84 (fun s67 hs67 => ?_)
                      have Fs67 : Fm [] [28, 29, 30, 31] σ s67 := by rw [hs67]; exact Fm.si Fs58 rfl
                      refine wa_return (st := []) rfl rfl ?_
                      exact ⟨Fs67, trivial⟩
                    · replace h65 := bI_f (b := bx64) (rfl) h65
                      refine wa_aload_n (i := 0) rfl rfl ?_
                      refine wa_Vv (d9 := d - 1) [] [] (sp_X12_cannot G (d := d - 1) (by omega) s58 ) (rfl) rfl rfl (zr (by omega)) mk_X12_cannot ly_84 ml_12_698 (Nat.le_of_ble_eq_true rfl) (fun s68 hs68 => ?_)
                      obtain ⟨fs68, -⟩ := hs68
                      have Fs68 : Fm [] [28, 29, 30, 31] σ s68 := Fm.tr Fs58 (Fm.wd fs68 rfl rfl)
                      refine wa_aload_n (i := 0) rfl rfl ?_
                      refine wa_dup rfl ?_
                      refine wa_geti ck_12 fl_12_597 ly_84 ?_
                      refine wa_rw (Fm.gi fs68 (q := 84) (k := 28) rfl rfl) ?_
                      refine wa_iconst (v := 1) (by decide) ?_
                      refine wa_iadd ?_
                      refine wa_top (fun v70 hv70 => ?_)
                      have tv70 := i_addT hv70
                      clear hv70
                      refine wa_puti ck_12 fl_12_597 ly_84 (fun s71 hs71 => ?_)
                      have Fs71 : Fm [] [28, 29, 30, 31] σ s71 := by rw [hs71]; exact Fm.si Fs68 rfl
                      refine wa_return (st := []) rfl rfl ?_
                      exact ⟨Fs71, trivial⟩
                · replace h57 := bI_t (b := (gb s22 84 31)) (rfl) h57
                  refine wa_iconst (v := 0) (by decide) ?_
                  refine wa_goto o_X12_readProofLine_130 (by decide) ?_
                  refine wa_Vv (d9 := d - 1) [.int _] [] (sp_X12_wantNumbers G (d := d - 1) (by omega) s22 _) (rfl) rfl rfl (zr (by omega)) mk_X12_wantNumbers ly_84 ml_12_1244 (Nat.le_of_ble_eq_true rfl) (fun s72 hs72 => ?_)
                  obtain ⟨fs72, -⟩ := hs72
                  have Fs72 : Fm [] [28, 29, 30, 31] σ s72 := Fm.tr Fs22 (Fm.wd fs72 rfl rfl)
                  refine wa_aload_n (i := 0) rfl rfl ?_
                  refine wa_getz ck_12 fl_12_562 ly_84 ?_
                  refine wa_if_ne o_X12_readProofLine_153 (by decide) (fun h74 => ?_) (fun h74 => ?_)
                  · replace h74 := bI_t (b := (gb s72 84 31)) (rfl) h74
                    refine wa_aload_n (i := 0) rfl rfl ?_
                    refine wa_dup rfl ?_
                    refine wa_geti ck_12 fl_12_597 ly_84 ?_
                    refine wa_iconst (v := 1) (by decide) ?_
                    refine wa_iadd ?_
                    refine wa_top (fun v75 hv75 => ?_)
                    have tv75 := i_addT hv75
                    clear hv75
                    refine wa_puti ck_12 fl_12_597 ly_84 (fun s76 hs76 => ?_)
                    have Fs76 : Fm [] [28, 29, 30, 31] σ s76 := by rw [hs76]; exact Fm.si Fs72 rfl
                    refine wa_return (st := []) rfl rfl ?_
                    exact ⟨Fs76, trivial⟩
                  · replace h74 := bI_f (b := (gb s72 84 31)) (rfl) h74
                    refine wa_aload_n (i := 0) rfl rfl ?_
                    refine wa_bipush (v := 6) (by decide) ?_
                    refine wa_Vi (d9 := d - 1) [.int _] [] (sp_X12_isSign G (d := d - 1) (by omega) s72 _) (rfl) rfl rfl (zr (by omega)) mk_X12_isSign ly_84 ml_12_672 (Nat.le_of_ble_eq_true rfl) (fun x78 s77 hs77 => ?_)
                    obtain ⟨bx78, ex78, zs77, -⟩ := pB hs77
                    subst ex78
                    subst zs77
                    refine wa_if_ne o_X12_readProofLine_153 (by decide) (fun h79 => ?_) (fun h79 => ?_)
                    · replace h79 := bI_t (b := bx78) (rfl) h79
                      refine wa_aload_n (i := 0) rfl rfl ?_
                      refine wa_dup rfl ?_
                      refine wa_geti ck_12 fl_12_597 ly_84 ?_
                      refine wa_iconst (v := 1) (by decide) ?_
                      refine wa_iadd ?_
                      refine wa_top (fun v80 hv80 => ?_)
                      have tv80 := i_addT hv80
                      clear hv80
                      refine wa_puti ck_12 fl_12_597 ly_84 (fun s81 hs81 => ?_)
                      have Fs81 : Fm [] [28, 29, 30, 31] σ s81 := by rw [hs81]; exact Fm.si Fs72 rfl
                      refine wa_return (st := []) rfl rfl ?_
                      exact ⟨Fs81, trivial⟩
                    · replace h79 := bI_f (b := bx78) (rfl) h79
                      refine wa_aload_n (i := 0) rfl rfl ?_
                      refine wa_Vv (d9 := d - 1) [] [] (sp_X12_cannot G (d := d - 1) (by omega) s72 ) (rfl) rfl rfl (zr (by omega)) mk_X12_cannot ly_84 ml_12_698 (Nat.le_of_ble_eq_true rfl) (fun s82 hs82 => ?_)
                      obtain ⟨fs82, -⟩ := hs82
                      have Fs82 : Fm [] [28, 29, 30, 31] σ s82 := Fm.tr Fs72 (Fm.wd fs82 rfl rfl)
                      refine wa_aload_n (i := 0) rfl rfl ?_
                      refine wa_dup rfl ?_
                      refine wa_geti ck_12 fl_12_597 ly_84 ?_
                      refine wa_rw (Fm.gi fs82 (q := 84) (k := 28) rfl rfl) ?_
                      refine wa_iconst (v := 1) (by decide) ?_
                      refine wa_iadd ?_
                      refine wa_top (fun v84 hv84 => ?_)
                      have tv84 := i_addT hv84
                      clear hv84
                      refine wa_puti ck_12 fl_12_597 ly_84 (fun s85 hs85 => ?_)
                      have Fs85 : Fm [] [28, 29, 30, 31] σ s85 := by rw [hs85]; exact Fm.si Fs82 rfl
                      refine wa_return (st := []) rfl rfl ?_
                      exact ⟨Fs85, trivial⟩
              · replace h56 := bI_t (b := bx55) (rfl) h56
                refine wa_aload_n (i := 0) rfl rfl ?_
                refine wa_dup rfl ?_
                refine wa_geti ck_12 fl_12_597 ly_84 ?_
                refine wa_iconst (v := 1) (by decide) ?_
                refine wa_iadd ?_
                refine wa_top (fun v86 hv86 => ?_)
                have tv86 := i_addT hv86
                clear hv86
                refine wa_puti ck_12 fl_12_597 ly_84 (fun s87 hs87 => ?_)
                have Fs87 : Fm [] [28, 29, 30, 31] σ s87 := by rw [hs87]; exact Fm.si Fs22 rfl
                refine wa_aload_n (i := 0) rfl rfl ?_
                refine wa_aload_n (i := 0) rfl rfl ?_
                refine wa_getz ck_12 fl_12_562 ly_84 ?_
                refine wa_rw (congrArg bI (nx_gb_si hs87)) ?_
                refine wa_if_eq o_X12_readProofLine_129 (by decide) (fun h88 => ?_) (fun h88 => ?_)
                · replace h88 := bI_f (b := (gb s22 84 31)) (rfl) h88
                  refine wa_iconst (v := 1) (by decide) ?_
                  refine wa_Vv (d9 := d - 1) [.int _] [] (sp_X12_wantNumbers G (d := d - 1) (by omega) s87 _) (rfl) rfl rfl (zr (by omega)) mk_X12_wantNumbers ly_84 ml_12_1244 (Nat.le_of_ble_eq_true rfl) (fun s89 hs89 => ?_)
                  obtain ⟨fs89, -⟩ := hs89
                  have Fs89 : Fm [] [28, 29, 30, 31] σ s89 := Fm.tr Fs87 (Fm.wd fs89 rfl rfl)
                  refine wa_aload_n (i := 0) rfl rfl ?_
                  refine wa_getz ck_12 fl_12_562 ly_84 ?_
                  refine wa_if_ne o_X12_readProofLine_153 (by decide) (fun h91 => ?_) (fun h91 => ?_)
                  · replace h91 := bI_t (b := (gb s89 84 31)) (rfl) h91
                    refine wa_aload_n (i := 0) rfl rfl ?_
                    refine wa_dup rfl ?_
                    refine wa_geti ck_12 fl_12_597 ly_84 ?_
                    refine wa_iconst (v := 1) (by decide) ?_
                    refine wa_iadd ?_
                    refine wa_top (fun v92 hv92 => ?_)
                    have tv92 := i_addT hv92
                    clear hv92
                    refine wa_puti ck_12 fl_12_597 ly_84 (fun s93 hs93 => ?_)
                    have Fs93 : Fm [] [28, 29, 30, 31] σ s93 := by rw [hs93]; exact Fm.si Fs89 rfl
                    refine wa_return (st := []) rfl rfl ?_
                    exact ⟨Fs93, trivial⟩
                  · replace h91 := bI_f (b := (gb s89 84 31)) (rfl) h91
                    refine wa_aload_n (i := 0) rfl rfl ?_
                    refine wa_bipush (v := 6) (by decide) ?_
                    refine wa_Vi (d9 := d - 1) [.int _] [] (sp_X12_isSign G (d := d - 1) (by omega) s89 _) (rfl) rfl rfl (zr (by omega)) mk_X12_isSign ly_84 ml_12_672 (Nat.le_of_ble_eq_true rfl) (fun x95 s94 hs94 => ?_)
                    obtain ⟨bx95, ex95, zs94, -⟩ := pB hs94
                    subst ex95
                    subst zs94
                    refine wa_if_ne o_X12_readProofLine_153 (by decide) (fun h96 => ?_) (fun h96 => ?_)
                    · replace h96 := bI_t (b := bx95) (rfl) h96
                      refine wa_aload_n (i := 0) rfl rfl ?_
                      refine wa_dup rfl ?_
                      refine wa_geti ck_12 fl_12_597 ly_84 ?_
                      refine wa_iconst (v := 1) (by decide) ?_
                      refine wa_iadd ?_
                      refine wa_top (fun v97 hv97 => ?_)
                      have tv97 := i_addT hv97
                      clear hv97
                      refine wa_puti ck_12 fl_12_597 ly_84 (fun s98 hs98 => ?_)
                      have Fs98 : Fm [] [28, 29, 30, 31] σ s98 := by rw [hs98]; exact Fm.si Fs89 rfl
                      refine wa_return (st := []) rfl rfl ?_
                      exact ⟨Fs98, trivial⟩
                    · replace h96 := bI_f (b := bx95) (rfl) h96
                      refine wa_aload_n (i := 0) rfl rfl ?_
                      refine wa_Vv (d9 := d - 1) [] [] (sp_X12_cannot G (d := d - 1) (by omega) s89 ) (rfl) rfl rfl (zr (by omega)) mk_X12_cannot ly_84 ml_12_698 (Nat.le_of_ble_eq_true rfl) (fun s99 hs99 => ?_)
                      obtain ⟨fs99, -⟩ := hs99
                      have Fs99 : Fm [] [28, 29, 30, 31] σ s99 := Fm.tr Fs89 (Fm.wd fs99 rfl rfl)
                      refine wa_aload_n (i := 0) rfl rfl ?_
                      refine wa_dup rfl ?_
                      refine wa_geti ck_12 fl_12_597 ly_84 ?_
                      refine wa_rw (Fm.gi fs99 (q := 84) (k := 28) rfl rfl) ?_
                      refine wa_iconst (v := 1) (by decide) ?_
                      refine wa_iadd ?_
                      refine wa_top (fun v101 hv101 => ?_)
                      have tv101 := i_addT hv101
                      clear hv101
                      refine wa_puti ck_12 fl_12_597 ly_84 (fun s102 hs102 => ?_)
                      have Fs102 : Fm [] [28, 29, 30, 31] σ s102 := by rw [hs102]; exact Fm.si Fs99 rfl
                      refine wa_return (st := []) rfl rfl ?_
                      exact ⟨Fs102, trivial⟩
                · replace h88 := bI_t (b := (gb s22 84 31)) (rfl) h88
                  refine wa_iconst (v := 0) (by decide) ?_
                  refine wa_goto o_X12_readProofLine_130 (by decide) ?_
                  refine wa_Vv (d9 := d - 1) [.int _] [] (sp_X12_wantNumbers G (d := d - 1) (by omega) s87 _) (rfl) rfl rfl (zr (by omega)) mk_X12_wantNumbers ly_84 ml_12_1244 (Nat.le_of_ble_eq_true rfl) (fun s103 hs103 => ?_)
                  obtain ⟨fs103, -⟩ := hs103
                  have Fs103 : Fm [] [28, 29, 30, 31] σ s103 := Fm.tr Fs87 (Fm.wd fs103 rfl rfl)
                  refine wa_aload_n (i := 0) rfl rfl ?_
                  refine wa_getz ck_12 fl_12_562 ly_84 ?_
                  refine wa_if_ne o_X12_readProofLine_153 (by decide) (fun h105 => ?_) (fun h105 => ?_)
                  · replace h105 := bI_t (b := (gb s103 84 31)) (rfl) h105
                    refine wa_aload_n (i := 0) rfl rfl ?_
                    refine wa_dup rfl ?_
                    refine wa_geti ck_12 fl_12_597 ly_84 ?_
                    refine wa_iconst (v := 1) (by decide) ?_
                    refine wa_iadd ?_
                    refine wa_top (fun v106 hv106 => ?_)
                    have tv106 := i_addT hv106
                    clear hv106
                    refine wa_puti ck_12 fl_12_597 ly_84 (fun s107 hs107 => ?_)
                    have Fs107 : Fm [] [28, 29, 30, 31] σ s107 := by rw [hs107]; exact Fm.si Fs103 rfl
                    refine wa_return (st := []) rfl rfl ?_
                    exact ⟨Fs107, trivial⟩
                  · replace h105 := bI_f (b := (gb s103 84 31)) (rfl) h105
                    refine wa_aload_n (i := 0) rfl rfl ?_
                    refine wa_bipush (v := 6) (by decide) ?_
                    refine wa_Vi (d9 := d - 1) [.int _] [] (sp_X12_isSign G (d := d - 1) (by omega) s103 _) (rfl) rfl rfl (zr (by omega)) mk_X12_isSign ly_84 ml_12_672 (Nat.le_of_ble_eq_true rfl) (fun x109 s108 hs108 => ?_)
                    obtain ⟨bx109, ex109, zs108, -⟩ := pB hs108
                    subst ex109
                    subst zs108
                    refine wa_if_ne o_X12_readProofLine_153 (by decide) (fun h110 => ?_) (fun h110 => ?_)
                    · replace h110 := bI_t (b := bx109) (rfl) h110
                      refine wa_aload_n (i := 0) rfl rfl ?_
                      refine wa_dup rfl ?_
                      refine wa_geti ck_12 fl_12_597 ly_84 ?_
                      refine wa_iconst (v := 1) (by decide) ?_
                      refine wa_iadd ?_
                      refine wa_top (fun v111 hv111 => ?_)
                      have tv111 := i_addT hv111
                      clear hv111
                      refine wa_puti ck_12 fl_12_597 ly_84 (fun s112 hs112 => ?_)
                      have Fs112 : Fm [] [28, 29, 30, 31] σ s112 := by rw [hs112]; exact Fm.si Fs103 rfl
                      refine wa_return (st := []) rfl rfl ?_
                      exact ⟨Fs112, trivial⟩
                    · replace h110 := bI_f (b := bx109) (rfl) h110
                      refine wa_aload_n (i := 0) rfl rfl ?_
                      refine wa_Vv (d9 := d - 1) [] [] (sp_X12_cannot G (d := d - 1) (by omega) s103 ) (rfl) rfl rfl (zr (by omega)) mk_X12_cannot ly_84 ml_12_698 (Nat.le_of_ble_eq_true rfl) (fun s113 hs113 => ?_)
                      obtain ⟨fs113, -⟩ := hs113
                      have Fs113 : Fm [] [28, 29, 30, 31] σ s113 := Fm.tr Fs103 (Fm.wd fs113 rfl rfl)
                      refine wa_aload_n (i := 0) rfl rfl ?_
                      refine wa_dup rfl ?_
                      refine wa_geti ck_12 fl_12_597 ly_84 ?_
                      refine wa_rw (Fm.gi fs113 (q := 84) (k := 28) rfl rfl) ?_
                      refine wa_iconst (v := 1) (by decide) ?_
                      refine wa_iadd ?_
                      refine wa_top (fun v115 hv115 => ?_)
                      have tv115 := i_addT hv115
                      clear hv115
                      refine wa_puti ck_12 fl_12_597 ly_84 (fun s116 hs116 => ?_)
                      have Fs116 : Fm [] [28, 29, 30, 31] σ s116 := by rw [hs116]; exact Fm.si Fs113 rfl
                      refine wa_return (st := []) rfl rfl ?_
                      exact ⟨Fs116, trivial⟩
        · refine wa_aload_n (i := 0) rfl rfl ?_
          refine wa_iconst (v := 2) (by decide) ?_
          refine wa_Vv (d9 := d - 1) [.int _] [] (sp_X12_wantNumbers G (d := d - 1) (by omega) s5 _) (rfl) rfl rfl (zr (by omega)) mk_X12_wantNumbers ly_84 ml_12_1244 (Nat.le_of_ble_eq_true rfl) (fun s117 hs117 => ?_)
          obtain ⟨fs117, -⟩ := hs117
          have Fs117 : Fm [] [28, 29, 30, 31] σ s117 := Fm.tr Fs5 (Fm.wd fs117 rfl rfl)
          refine wa_goto o_X12_readProofLine_133 (by decide) ?_
          refine wa_aload_n (i := 0) rfl rfl ?_
          refine wa_getz ck_12 fl_12_562 ly_84 ?_
          refine wa_if_ne o_X12_readProofLine_153 (by decide) (fun h119 => ?_) (fun h119 => ?_)
          · replace h119 := bI_t (b := (gb s117 84 31)) (rfl) h119
            refine wa_aload_n (i := 0) rfl rfl ?_
            refine wa_dup rfl ?_
            refine wa_geti ck_12 fl_12_597 ly_84 ?_
            refine wa_iconst (v := 1) (by decide) ?_
            refine wa_iadd ?_
            refine wa_top (fun v120 hv120 => ?_)
            have tv120 := i_addT hv120
            clear hv120
            refine wa_puti ck_12 fl_12_597 ly_84 (fun s121 hs121 => ?_)
            have Fs121 : Fm [] [28, 29, 30, 31] σ s121 := by rw [hs121]; exact Fm.si Fs117 rfl
            refine wa_return (st := []) rfl rfl ?_
            exact ⟨Fs121, trivial⟩
          · replace h119 := bI_f (b := (gb s117 84 31)) (rfl) h119
            refine wa_aload_n (i := 0) rfl rfl ?_
            refine wa_bipush (v := 6) (by decide) ?_
            refine wa_Vi (d9 := d - 1) [.int _] [] (sp_X12_isSign G (d := d - 1) (by omega) s117 _) (rfl) rfl rfl (zr (by omega)) mk_X12_isSign ly_84 ml_12_672 (Nat.le_of_ble_eq_true rfl) (fun x123 s122 hs122 => ?_)
            obtain ⟨bx123, ex123, zs122, -⟩ := pB hs122
            subst ex123
            subst zs122
            refine wa_if_ne o_X12_readProofLine_153 (by decide) (fun h124 => ?_) (fun h124 => ?_)
            · replace h124 := bI_t (b := bx123) (rfl) h124
              refine wa_aload_n (i := 0) rfl rfl ?_
              refine wa_dup rfl ?_
              refine wa_geti ck_12 fl_12_597 ly_84 ?_
              refine wa_iconst (v := 1) (by decide) ?_
              refine wa_iadd ?_
              refine wa_top (fun v125 hv125 => ?_)
              have tv125 := i_addT hv125
              clear hv125
              refine wa_puti ck_12 fl_12_597 ly_84 (fun s126 hs126 => ?_)
              have Fs126 : Fm [] [28, 29, 30, 31] σ s126 := by rw [hs126]; exact Fm.si Fs117 rfl
              refine wa_return (st := []) rfl rfl ?_
              exact ⟨Fs126, trivial⟩
            · replace h124 := bI_f (b := bx123) (rfl) h124
              refine wa_aload_n (i := 0) rfl rfl ?_
              refine wa_Vv (d9 := d - 1) [] [] (sp_X12_cannot G (d := d - 1) (by omega) s117 ) (rfl) rfl rfl (zr (by omega)) mk_X12_cannot ly_84 ml_12_698 (Nat.le_of_ble_eq_true rfl) (fun s127 hs127 => ?_)
              obtain ⟨fs127, -⟩ := hs127
              have Fs127 : Fm [] [28, 29, 30, 31] σ s127 := Fm.tr Fs117 (Fm.wd fs127 rfl rfl)
              refine wa_aload_n (i := 0) rfl rfl ?_
              refine wa_dup rfl ?_
              refine wa_geti ck_12 fl_12_597 ly_84 ?_
              refine wa_rw (Fm.gi fs127 (q := 84) (k := 28) rfl rfl) ?_
              refine wa_iconst (v := 1) (by decide) ?_
              refine wa_iadd ?_
              refine wa_top (fun v129 hv129 => ?_)
              have tv129 := i_addT hv129
              clear hv129
              refine wa_puti ck_12 fl_12_597 ly_84 (fun s130 hs130 => ?_)
              have Fs130 : Fm [] [28, 29, 30, 31] σ s130 := by rw [hs130]; exact Fm.si Fs127 rfl
              refine wa_return (st := []) rfl rfl ?_
              exact ⟨Fs130, trivial⟩
      · refine wa_aload_n (i := 0) rfl rfl ?_
        refine wa_iconst (v := 4) (by decide) ?_
        refine wa_Vv (d9 := d - 1) [.int _] [] (sp_X12_wantNumbers G (d := d - 1) (by omega) s5 _) (rfl) rfl rfl (zr (by omega)) mk_X12_wantNumbers ly_84 ml_12_1244 (Nat.le_of_ble_eq_true rfl) (fun s131 hs131 => ?_)
        obtain ⟨fs131, -⟩ := hs131
        have Fs131 : Fm [] [28, 29, 30, 31] σ s131 := Fm.tr Fs5 (Fm.wd fs131 rfl rfl)
        refine wa_goto o_X12_readProofLine_133 (by decide) ?_
        refine wa_aload_n (i := 0) rfl rfl ?_
        refine wa_getz ck_12 fl_12_562 ly_84 ?_
        refine wa_if_ne o_X12_readProofLine_153 (by decide) (fun h133 => ?_) (fun h133 => ?_)
        · replace h133 := bI_t (b := (gb s131 84 31)) (rfl) h133
          refine wa_aload_n (i := 0) rfl rfl ?_
          refine wa_dup rfl ?_
          refine wa_geti ck_12 fl_12_597 ly_84 ?_
          refine wa_iconst (v := 1) (by decide) ?_
          refine wa_iadd ?_
          refine wa_top (fun v134 hv134 => ?_)
          have tv134 := i_addT hv134
          clear hv134
          refine wa_puti ck_12 fl_12_597 ly_84 (fun s135 hs135 => ?_)
          have Fs135 : Fm [] [28, 29, 30, 31] σ s135 := by rw [hs135]; exact Fm.si Fs131 rfl
          refine wa_return (st := []) rfl rfl ?_
          exact ⟨Fs135, trivial⟩
        · replace h133 := bI_f (b := (gb s131 84 31)) (rfl) h133
          refine wa_aload_n (i := 0) rfl rfl ?_
          refine wa_bipush (v := 6) (by decide) ?_
          refine wa_Vi (d9 := d - 1) [.int _] [] (sp_X12_isSign G (d := d - 1) (by omega) s131 _) (rfl) rfl rfl (zr (by omega)) mk_X12_isSign ly_84 ml_12_672 (Nat.le_of_ble_eq_true rfl) (fun x137 s136 hs136 => ?_)
          obtain ⟨bx137, ex137, zs136, -⟩ := pB hs136
          subst ex137
          subst zs136
          refine wa_if_ne o_X12_readProofLine_153 (by decide) (fun h138 => ?_) (fun h138 => ?_)
          · replace h138 := bI_t (b := bx137) (rfl) h138
            refine wa_aload_n (i := 0) rfl rfl ?_
            refine wa_dup rfl ?_
            refine wa_geti ck_12 fl_12_597 ly_84 ?_
            refine wa_iconst (v := 1) (by decide) ?_
            refine wa_iadd ?_
            refine wa_top (fun v139 hv139 => ?_)
            have tv139 := i_addT hv139
            clear hv139
            refine wa_puti ck_12 fl_12_597 ly_84 (fun s140 hs140 => ?_)
            have Fs140 : Fm [] [28, 29, 30, 31] σ s140 := by rw [hs140]; exact Fm.si Fs131 rfl
            refine wa_return (st := []) rfl rfl ?_
            exact ⟨Fs140, trivial⟩
          · replace h138 := bI_f (b := bx137) (rfl) h138
            refine wa_aload_n (i := 0) rfl rfl ?_
            refine wa_Vv (d9 := d - 1) [] [] (sp_X12_cannot G (d := d - 1) (by omega) s131 ) (rfl) rfl rfl (zr (by omega)) mk_X12_cannot ly_84 ml_12_698 (Nat.le_of_ble_eq_true rfl) (fun s141 hs141 => ?_)
            obtain ⟨fs141, -⟩ := hs141
            have Fs141 : Fm [] [28, 29, 30, 31] σ s141 := Fm.tr Fs131 (Fm.wd fs141 rfl rfl)
            refine wa_aload_n (i := 0) rfl rfl ?_
            refine wa_dup rfl ?_
            refine wa_geti ck_12 fl_12_597 ly_84 ?_
            refine wa_rw (Fm.gi fs141 (q := 84) (k := 28) rfl rfl) ?_
            refine wa_iconst (v := 1) (by decide) ?_
            refine wa_iadd ?_
            refine wa_top (fun v143 hv143 => ?_)
            have tv143 := i_addT hv143
            clear hv143
            refine wa_puti ck_12 fl_12_597 ly_84 (fun s144 hs144 => ?_)
            have Fs144 : Fm [] [28, 29, 30, 31] σ s144 := by rw [hs144]; exact Fm.si Fs141 rfl
            refine wa_return (st := []) rfl rfl ?_
            exact ⟨Fs144, trivial⟩
    · refine wa_aload_n (i := 0) rfl rfl ?_
      refine wa_Vv (d9 := d - 1) [] [] (sp_X12_wantName G (d := d - 1) (by omega) s5  (by rw [nxk_gi_si hs5 (by decide)]; first | assumption | exact Or.inl rfl | exact Or.inr rfl | (((try simp only [vp_in_iff, Int32.lt_iff_toInt_lt, Int32.le_iff_toInt_le, ← Int32.toInt_inj, Int32.reduceToInt, n_1, n_2, n_8, Int32.toNatClampNeg, Int64.lt_iff_toInt_lt, Int64.le_iff_toInt_le, ← Int64.toInt_inj, Int64.reduceToInt, Int32.toInt_toInt64, lg_cmp_ge, lg_cmp_le, lg_cmp_gt, lg_cmp_lt, lg_cmp_eq, Bool.false_eq_true, Bool.true_eq_false, reduceCtorEq, false_iff, true_iff, iff_true, iff_false, and_true, true_and, and_false, false_and, reduceIte, ite_true, ite_false, eq_self] at *)) <;> omega))) (rfl) rfl rfl (zr (by omega)) mk_X12_wantName ly_84 ml_12_1241 (Nat.le_of_ble_eq_true rfl) (fun s145 hs145 => ?_)
      obtain ⟨fs145, -⟩ := hs145
      have Fs145 : Fm [] [28, 29, 30, 31] σ s145 := Fm.tr Fs5 (Fm.wd fs145 rfl rfl)
      refine wa_aload_n (i := 0) rfl rfl ?_
      refine wa_aload_n (i := 0) rfl rfl ?_
      refine wa_getz ck_12 fl_12_562 ly_84 ?_
      refine wa_if_eq o_X12_readProofLine_49 (by decide) (fun h147 => ?_) (fun h147 => ?_)
      · replace h147 := bI_f (b := (gb s145 84 31)) (rfl) h147
        refine wa_iconst (v := 1) (by decide) ?_
        refine wa_Vv (d9 := d - 1) [.int _] [] (sp_X12_wantNumbers G (d := d - 1) (by omega) s145 _) (rfl) rfl rfl (zr (by omega)) mk_X12_wantNumbers ly_84 ml_12_1244 (Nat.le_of_ble_eq_true rfl) (fun s148 hs148 => ?_)
        obtain ⟨fs148, -⟩ := hs148
        have Fs148 : Fm [] [28, 29, 30, 31] σ s148 := Fm.tr Fs145 (Fm.wd fs148 rfl rfl)
        refine wa_goto o_X12_readProofLine_133 (by decide) ?_
        refine wa_aload_n (i := 0) rfl rfl ?_
        refine wa_getz ck_12 fl_12_562 ly_84 ?_
        refine wa_if_ne o_X12_readProofLine_153 (by decide) (fun h150 => ?_) (fun h150 => ?_)
        · replace h150 := bI_t (b := (gb s148 84 31)) (rfl) h150
          refine wa_aload_n (i := 0) rfl rfl ?_
          refine wa_dup rfl ?_
          refine wa_geti ck_12 fl_12_597 ly_84 ?_
          refine wa_iconst (v := 1) (by decide) ?_
          refine wa_iadd ?_
          refine wa_top (fun v151 hv151 => ?_)
          have tv151 := i_addT hv151
          clear hv151
          refine wa_puti ck_12 fl_12_597 ly_84 (fun s152 hs152 => ?_)
          have Fs152 : Fm [] [28, 29, 30, 31] σ s152 := by rw [hs152]; exact Fm.si Fs148 rfl
          refine wa_return (st := []) rfl rfl ?_
          exact ⟨Fs152, trivial⟩
        · replace h150 := bI_f (b := (gb s148 84 31)) (rfl) h150
          refine wa_aload_n (i := 0) rfl rfl ?_
          refine wa_bipush (v := 6) (by decide) ?_
          refine wa_Vi (d9 := d - 1) [.int _] [] (sp_X12_isSign G (d := d - 1) (by omega) s148 _) (rfl) rfl rfl (zr (by omega)) mk_X12_isSign ly_84 ml_12_672 (Nat.le_of_ble_eq_true rfl) (fun x154 s153 hs153 => ?_)
          obtain ⟨bx154, ex154, zs153, -⟩ := pB hs153
          subst ex154
          subst zs153
          refine wa_if_ne o_X12_readProofLine_153 (by decide) (fun h155 => ?_) (fun h155 => ?_)
          · replace h155 := bI_t (b := bx154) (rfl) h155
            refine wa_aload_n (i := 0) rfl rfl ?_
            refine wa_dup rfl ?_
            refine wa_geti ck_12 fl_12_597 ly_84 ?_
            refine wa_iconst (v := 1) (by decide) ?_
            refine wa_iadd ?_
            refine wa_top (fun v156 hv156 => ?_)
            have tv156 := i_addT hv156
            clear hv156
            refine wa_puti ck_12 fl_12_597 ly_84 (fun s157 hs157 => ?_)
            have Fs157 : Fm [] [28, 29, 30, 31] σ s157 := by rw [hs157]; exact Fm.si Fs148 rfl
            refine wa_return (st := []) rfl rfl ?_
            exact ⟨Fs157, trivial⟩
          · replace h155 := bI_f (b := bx154) (rfl) h155
            refine wa_aload_n (i := 0) rfl rfl ?_
            refine wa_Vv (d9 := d - 1) [] [] (sp_X12_cannot G (d := d - 1) (by omega) s148 ) (rfl) rfl rfl (zr (by omega)) mk_X12_cannot ly_84 ml_12_698 (Nat.le_of_ble_eq_true rfl) (fun s158 hs158 => ?_)
            obtain ⟨fs158, -⟩ := hs158
            have Fs158 : Fm [] [28, 29, 30, 31] σ s158 := Fm.tr Fs148 (Fm.wd fs158 rfl rfl)
            refine wa_aload_n (i := 0) rfl rfl ?_
            refine wa_dup rfl ?_
            refine wa_geti ck_12 fl_12_597 ly_84 ?_
            refine wa_rw (Fm.gi fs158 (q := 84) (k := 28) rfl rfl) ?_
            refine wa_iconst (v := 1) (by decide) ?_
            refine wa_iadd ?_
            refine wa_top (fun v160 hv160 => ?_)
            have tv160 := i_addT hv160
            clear hv160
            refine wa_puti ck_12 fl_12_597 ly_84 (fun s161 hs161 => ?_)
            have Fs161 : Fm [] [28, 29, 30, 31] σ s161 := by rw [hs161]; exact Fm.si Fs158 rfl
            refine wa_return (st := []) rfl rfl ?_
            exact ⟨Fs161, trivial⟩
      · replace h147 := bI_t (b := (gb s145 84 31)) (rfl) h147
        refine wa_iconst (v := 0) (by decide) ?_
        refine wa_goto o_X12_readProofLine_50 (by decide) ?_
        refine wa_Vv (d9 := d - 1) [.int _] [] (sp_X12_wantNumbers G (d := d - 1) (by omega) s145 _) (rfl) rfl rfl (zr (by omega)) mk_X12_wantNumbers ly_84 ml_12_1244 (Nat.le_of_ble_eq_true rfl) (fun s162 hs162 => ?_)
        obtain ⟨fs162, -⟩ := hs162
        have Fs162 : Fm [] [28, 29, 30, 31] σ s162 := Fm.tr Fs145 (Fm.wd fs162 rfl rfl)
        refine wa_goto o_X12_readProofLine_133 (by decide) ?_
        refine wa_aload_n (i := 0) rfl rfl ?_
        refine wa_getz ck_12 fl_12_562 ly_84 ?_
        refine wa_if_ne o_X12_readProofLine_153 (by decide) (fun h164 => ?_) (fun h164 => ?_)
        · replace h164 := bI_t (b := (gb s162 84 31)) (rfl) h164
          refine wa_aload_n (i := 0) rfl rfl ?_
          refine wa_dup rfl ?_
          refine wa_geti ck_12 fl_12_597 ly_84 ?_
          refine wa_iconst (v := 1) (by decide) ?_
          refine wa_iadd ?_
          refine wa_top (fun v165 hv165 => ?_)
          have tv165 := i_addT hv165
          clear hv165
          refine wa_puti ck_12 fl_12_597 ly_84 (fun s166 hs166 => ?_)
          have Fs166 : Fm [] [28, 29, 30, 31] σ s166 := by rw [hs166]; exact Fm.si Fs162 rfl
          refine wa_return (st := []) rfl rfl ?_
          exact ⟨Fs166, trivial⟩
        · replace h164 := bI_f (b := (gb s162 84 31)) (rfl) h164
          refine wa_aload_n (i := 0) rfl rfl ?_
          refine wa_bipush (v := 6) (by decide) ?_
          refine wa_Vi (d9 := d - 1) [.int _] [] (sp_X12_isSign G (d := d - 1) (by omega) s162 _) (rfl) rfl rfl (zr (by omega)) mk_X12_isSign ly_84 ml_12_672 (Nat.le_of_ble_eq_true rfl) (fun x168 s167 hs167 => ?_)
          obtain ⟨bx168, ex168, zs167, -⟩ := pB hs167
          subst ex168
          subst zs167
          refine wa_if_ne o_X12_readProofLine_153 (by decide) (fun h169 => ?_) (fun h169 => ?_)
          · replace h169 := bI_t (b := bx168) (rfl) h169
            refine wa_aload_n (i := 0) rfl rfl ?_
            refine wa_dup rfl ?_
            refine wa_geti ck_12 fl_12_597 ly_84 ?_
            refine wa_iconst (v := 1) (by decide) ?_
            refine wa_iadd ?_
            refine wa_top (fun v170 hv170 => ?_)
            have tv170 := i_addT hv170
            clear hv170
            refine wa_puti ck_12 fl_12_597 ly_84 (fun s171 hs171 => ?_)
            have Fs171 : Fm [] [28, 29, 30, 31] σ s171 := by rw [hs171]; exact Fm.si Fs162 rfl
            refine wa_return (st := []) rfl rfl ?_
            exact ⟨Fs171, trivial⟩
          · replace h169 := bI_f (b := bx168) (rfl) h169
            refine wa_aload_n (i := 0) rfl rfl ?_
            refine wa_Vv (d9 := d - 1) [] [] (sp_X12_cannot G (d := d - 1) (by omega) s162 ) (rfl) rfl rfl (zr (by omega)) mk_X12_cannot ly_84 ml_12_698 (Nat.le_of_ble_eq_true rfl) (fun s172 hs172 => ?_)
            obtain ⟨fs172, -⟩ := hs172
            have Fs172 : Fm [] [28, 29, 30, 31] σ s172 := Fm.tr Fs162 (Fm.wd fs172 rfl rfl)
            refine wa_aload_n (i := 0) rfl rfl ?_
            refine wa_dup rfl ?_
            refine wa_geti ck_12 fl_12_597 ly_84 ?_
            refine wa_rw (Fm.gi fs172 (q := 84) (k := 28) rfl rfl) ?_
            refine wa_iconst (v := 1) (by decide) ?_
            refine wa_iadd ?_
            refine wa_top (fun v174 hv174 => ?_)
            have tv174 := i_addT hv174
            clear hv174
            refine wa_puti ck_12 fl_12_597 ly_84 (fun s175 hs175 => ?_)
            have Fs175 : Fm [] [28, 29, 30, 31] σ s175 := by rw [hs175]; exact Fm.si Fs172 rfl
            refine wa_return (st := []) rfl rfl ?_
            exact ⟨Fs175, trivial⟩
  · refine wa_aload_n (i := 0) rfl rfl ?_
    refine wa_Vv (d9 := d - 1) [] [] (sp_X12_cannot G (d := d - 1) (by omega) σ ) (rfl) rfl rfl (zr (by omega)) mk_X12_cannot ly_84 ml_12_698 (Nat.le_of_ble_eq_true rfl) (fun s176 hs176 => ?_)
    obtain ⟨fs176, -⟩ := hs176
    have Fs176 : Fm [] [28, 29, 30, 31] σ s176 := Fm.tr (Fm.rf [] [28, 29, 30, 31] σ) (Fm.wd fs176 rfl rfl)
    refine wa_return (st := []) rfl rfl ?_
    exact ⟨Fs176, trivial⟩
set_option maxHeartbeats 4000000 in
theorem sp_X12_isLine (G : kG9) {d : Nat} (hd : 1 ≤ d) (σ : St) (a0 : Int32) : Ct G M_X12_isLine d [.ref 84, .int a0] σ (fun r σ' => ∃ x : Bool, r = some (.int (bI x)) ∧ σ = σ' ∧ True) := by
  refine wa_start (by decide) rfl (Nat.le_of_ble_eq_true rfl) (lv := [(0, .ref 84), (1, .int a0)]) rfl o_X12_isLine_0 rfl ?_
  have ua0 := Int32.toInt_lt a0
  have wa0 := Int32.le_toInt a0
  refine wa_iload_n (i := 1) rfl rfl ?_
  refine wa_i2l ?_
  refine wa_lconst (v := 1) (by decide) ?_
  refine wa_aload_n (i := 0) rfl rfl ?_
  refine wa_geti ck_12 fl_12_1247 ly_84 ?_
  refine wa_i2l ?_
  refine wa_Si (d9 := d - 1) [.long _, .long _, .long _] [] (sp_X12_in G (d := d - 1) (by omega) σ _ _ _) (rfl) rfl rfl (zr (by omega)) mk_X12_in ml_12_504 (Nat.le_of_ble_eq_true rfl) (fun x2 s1 hs1 => ?_)
  obtain ⟨bx2, ex2, zs1, cx2_1, -⟩ := pB hs1
  subst ex2
  subst zs1
  refine wa_if_eq o_X12_isLine_27 (by decide) (fun h3 => ?_) (fun h3 => ?_)
  · replace h3 := bI_f (b := bx2) (rfl) h3
    have uh3_0 := iff_f cx2_1 h3
    refine wa_iconst (v := 0) (by decide) ?_
    refine wa_zreturn false (rfl) rfl rfl ?_
    exact ⟨_, rfl, rfl, trivial⟩
  · replace h3 := bI_t (b := bx2) (rfl) h3
    have uh3_0 := iff_t cx2_1 h3
    refine wa_aload_n (i := 0) rfl rfl ?_
    refine wa_getr ck_12 fl_12_441 ly_84 rf_84_186 ?_
    refine wa_iload_n (i := 1) rfl rfl ?_
    refine wa_zald ly_90 (by ((try simp only [vp_in_iff, Int32.lt_iff_toInt_lt, Int32.le_iff_toInt_le, ← Int32.toInt_inj, Int32.reduceToInt, n_1, n_2, n_8, Int32.toNatClampNeg, Int64.lt_iff_toInt_lt, Int64.le_iff_toInt_le, ← Int64.toInt_inj, Int64.reduceToInt, Int32.toInt_toInt64, lg_cmp_ge, lg_cmp_le, lg_cmp_gt, lg_cmp_lt, lg_cmp_eq, Bool.false_eq_true, Bool.true_eq_false, reduceCtorEq, false_iff, true_iff, iff_true, iff_false, and_true, true_and, and_false, false_and, reduceIte, ite_true, ite_false, eq_self] at *)) <;> omega) ?_
    refine wa_if_eq o_X12_isLine_27 (by decide) (fun h4 => ?_) (fun h4 => ?_)
    · replace h4 := bI_f (b := (gb σ 90 (a0).toNatClampNeg)) (rfl) h4
      refine wa_iconst (v := 0) (by decide) ?_
      refine wa_zreturn false (rfl) rfl rfl ?_
      exact ⟨_, rfl, rfl, trivial⟩
    · replace h4 := bI_t (b := (gb σ 90 (a0).toNatClampNeg)) (rfl) h4
      refine wa_iconst (v := 1) (by decide) ?_
      refine wa_goto o_X12_isLine_28 (by decide) ?_
      refine wa_zreturn true (rfl) rfl rfl ?_
      exact ⟨_, rfl, rfl, trivial⟩
set_option maxHeartbeats 4000000 in
theorem sp_X12_isFalse (G : kG9) {d : Nat} (hd : 0 ≤ d) (σ : St) (a0 : Int32) : Ct G M_X12_isFalse d [.ref 84, .int a0] σ (fun r σ' => ∃ x : Bool, r = some (.int (bI x)) ∧ σ = σ' ∧ True) := by
  refine wa_start (by decide) rfl (Nat.le_of_ble_eq_true rfl) (lv := [(0, .ref 84), (1, .int a0)]) rfl o_X12_isFalse_0 rfl ?_
  have ua0 := Int32.toInt_lt a0
  have wa0 := Int32.le_toInt a0
  refine wa_iload_n (i := 1) rfl rfl ?_
  refine wa_if_le o_X12_isFalse_77 (by decide) (fun h1 => ?_) (fun h1 => ?_)
  · refine wa_iconst (v := 0) (by decide) ?_
    refine wa_zreturn false (rfl) rfl rfl ?_
    exact ⟨_, rfl, rfl, trivial⟩
  · refine wa_aload_n (i := 0) rfl rfl ?_
    refine wa_getr ck_12 fl_12_438 ly_84 rf_84_185 ?_
    refine wa_iload_n (i := 1) rfl rfl ?_
    refine wa_lald ly_91 (by ((try simp only [vp_in_iff, Int32.lt_iff_toInt_lt, Int32.le_iff_toInt_le, ← Int32.toInt_inj, Int32.reduceToInt, n_1, n_2, n_8, Int32.toNatClampNeg, Int64.lt_iff_toInt_lt, Int64.le_iff_toInt_le, ← Int64.toInt_inj, Int64.reduceToInt, Int32.toInt_toInt64, lg_cmp_ge, lg_cmp_le, lg_cmp_gt, lg_cmp_lt, lg_cmp_eq, Bool.false_eq_true, Bool.true_eq_false, reduceCtorEq, false_iff, true_iff, iff_true, iff_false, and_true, true_and, and_false, false_and, reduceIte, ite_true, ite_false, eq_self] at *)) <;> omega) ?_
    refine wa_lconst (v := 0) (by decide) ?_
    refine wa_lcmp ?_
    refine wa_top (fun v2 hv2 => ?_)
    have tv2 := i_cmpT hv2
    clear hv2
    refine wa_if_ge o_X12_isFalse_77 (by decide) (fun h3 => ?_) (fun h3 => ?_)
    · refine wa_iconst (v := 0) (by decide) ?_
      refine wa_zreturn false (rfl) rfl rfl ?_
      exact ⟨_, rfl, rfl, trivial⟩
    · refine wa_aload_n (i := 0) rfl rfl ?_
      refine wa_getr ck_12 fl_12_435 ly_84 rf_84_184 ?_
      refine wa_iconst (v := 4) (by decide) ?_
      refine wa_iload_n (i := 1) rfl rfl ?_
      refine wa_imul ?_
      refine wa_top (fun v4 hv4 => ?_)
      have tv4 := i_mulT hv4
      clear hv4
      refine wa_lald ly_92 (by ((try simp only [vp_in_iff, Int32.lt_iff_toInt_lt, Int32.le_iff_toInt_le, ← Int32.toInt_inj, Int32.reduceToInt, n_1, n_2, n_8, Int32.toNatClampNeg, Int64.lt_iff_toInt_lt, Int64.le_iff_toInt_le, ← Int64.toInt_inj, Int64.reduceToInt, Int32.toInt_toInt64, lg_cmp_ge, lg_cmp_le, lg_cmp_gt, lg_cmp_lt, lg_cmp_eq, Bool.false_eq_true, Bool.true_eq_false, reduceCtorEq, false_iff, true_iff, iff_true, iff_false, and_true, true_and, and_false, false_and, reduceIte, ite_true, ite_false, eq_self] at *)) <;> omega) ?_
      refine wa_lconst (v := 0) (by decide) ?_
      refine wa_lcmp ?_
      refine wa_top (fun v5 hv5 => ?_)
      have tv5 := i_cmpT hv5
      clear hv5
      refine wa_if_ne o_X12_isFalse_77 (by decide) (fun h6 => ?_) (fun h6 => ?_)
      · refine wa_iconst (v := 0) (by decide) ?_
        refine wa_zreturn false (rfl) rfl rfl ?_
        exact ⟨_, rfl, rfl, trivial⟩
      · refine wa_aload_n (i := 0) rfl rfl ?_
        refine wa_getr ck_12 fl_12_435 ly_84 rf_84_184 ?_
        refine wa_iconst (v := 4) (by decide) ?_
        refine wa_iload_n (i := 1) rfl rfl ?_
        refine wa_imul ?_
        refine wa_top (fun v7 hv7 => ?_)
        have tv7 := i_mulT hv7
        clear hv7
        refine wa_iconst (v := 1) (by decide) ?_
        refine wa_iadd ?_
        refine wa_top (fun v8 hv8 => ?_)
        have tv8 := i_addT hv8
        clear hv8
        refine wa_lald ly_92 (by ((try simp only [vp_in_iff, Int32.lt_iff_toInt_lt, Int32.le_iff_toInt_le, ← Int32.toInt_inj, Int32.reduceToInt, n_1, n_2, n_8, Int32.toNatClampNeg, Int64.lt_iff_toInt_lt, Int64.le_iff_toInt_le, ← Int64.toInt_inj, Int64.reduceToInt, Int32.toInt_toInt64, lg_cmp_ge, lg_cmp_le, lg_cmp_gt, lg_cmp_lt, lg_cmp_eq, Bool.false_eq_true, Bool.true_eq_false, reduceCtorEq, false_iff, true_iff, iff_true, iff_false, and_true, true_and, and_false, false_and, reduceIte, ite_true, ite_false, eq_self] at *)) <;> omega) ?_
        refine wa_lconst (v := 0) (by decide) ?_
        refine wa_lcmp ?_
        refine wa_top (fun v9 hv9 => ?_)
        have tv9 := i_cmpT hv9
        clear hv9
        refine wa_if_ne o_X12_isFalse_77 (by decide) (fun h10 => ?_) (fun h10 => ?_)
        · refine wa_iconst (v := 0) (by decide) ?_
          refine wa_zreturn false (rfl) rfl rfl ?_
          exact ⟨_, rfl, rfl, trivial⟩
        · refine wa_aload_n (i := 0) rfl rfl ?_
          refine wa_getr ck_12 fl_12_435 ly_84 rf_84_184 ?_
          refine wa_iconst (v := 4) (by decide) ?_
          refine wa_iload_n (i := 1) rfl rfl ?_
          refine wa_imul ?_
          refine wa_top (fun v11 hv11 => ?_)
          have tv11 := i_mulT hv11
          clear hv11
          refine wa_iconst (v := 2) (by decide) ?_
          refine wa_iadd ?_
          refine wa_top (fun v12 hv12 => ?_)
          have tv12 := i_addT hv12
          clear hv12
          refine wa_lald ly_92 (by ((try simp only [vp_in_iff, Int32.lt_iff_toInt_lt, Int32.le_iff_toInt_le, ← Int32.toInt_inj, Int32.reduceToInt, n_1, n_2, n_8, Int32.toNatClampNeg, Int64.lt_iff_toInt_lt, Int64.le_iff_toInt_le, ← Int64.toInt_inj, Int64.reduceToInt, Int32.toInt_toInt64, lg_cmp_ge, lg_cmp_le, lg_cmp_gt, lg_cmp_lt, lg_cmp_eq, Bool.false_eq_true, Bool.true_eq_false, reduceCtorEq, false_iff, true_iff, iff_true, iff_false, and_true, true_and, and_false, false_and, reduceIte, ite_true, ite_false, eq_self] at *)) <;> omega) ?_
          refine wa_lconst (v := 0) (by decide) ?_
          refine wa_lcmp ?_
          refine wa_top (fun v13 hv13 => ?_)
          have tv13 := i_cmpT hv13
          clear hv13
          refine wa_if_ne o_X12_isFalse_77 (by decide) (fun h14 => ?_) (fun h14 => ?_)
          · refine wa_iconst (v := 0) (by decide) ?_
            refine wa_zreturn false (rfl) rfl rfl ?_
            exact ⟨_, rfl, rfl, trivial⟩
          · refine wa_aload_n (i := 0) rfl rfl ?_
            refine wa_getr ck_12 fl_12_435 ly_84 rf_84_184 ?_
            refine wa_iconst (v := 4) (by decide) ?_
            refine wa_iload_n (i := 1) rfl rfl ?_
            refine wa_imul ?_
            refine wa_top (fun v15 hv15 => ?_)
            have tv15 := i_mulT hv15
            clear hv15
            refine wa_iconst (v := 3) (by decide) ?_
            refine wa_iadd ?_
            refine wa_top (fun v16 hv16 => ?_)
            have tv16 := i_addT hv16
            clear hv16
            refine wa_lald ly_92 (by ((try simp only [vp_in_iff, Int32.lt_iff_toInt_lt, Int32.le_iff_toInt_le, ← Int32.toInt_inj, Int32.reduceToInt, n_1, n_2, n_8, Int32.toNatClampNeg, Int64.lt_iff_toInt_lt, Int64.le_iff_toInt_le, ← Int64.toInt_inj, Int64.reduceToInt, Int32.toInt_toInt64, lg_cmp_ge, lg_cmp_le, lg_cmp_gt, lg_cmp_lt, lg_cmp_eq, Bool.false_eq_true, Bool.true_eq_false, reduceCtorEq, false_iff, true_iff, iff_true, iff_false, and_true, true_and, and_false, false_and, reduceIte, ite_true, ite_false, eq_self] at *)) <;> omega) ?_
            refine wa_lconst (v := 0) (by decide) ?_
            refine wa_lcmp ?_
            refine wa_top (fun v17 hv17 => ?_)
            have tv17 := i_cmpT hv17
            clear hv17
            refine wa_if_ne o_X12_isFalse_77 (by decide) (fun h18 => ?_) (fun h18 => ?_)
            · refine wa_iconst (v := 0) (by decide) ?_
              refine wa_zreturn false (rfl) rfl rfl ?_
              exact ⟨_, rfl, rfl, trivial⟩
            · refine wa_iconst (v := 1) (by decide) ?_
              refine wa_goto o_X12_isFalse_78 (by decide) ?_
              refine wa_zreturn true (rfl) rfl rfl ?_
              exact ⟨_, rfl, rfl, trivial⟩
set_option maxHeartbeats 4000000 in
theorem sp_X12_isEnded (G : kG9) {d : Nat} (hd : 1 ≤ d) (σ : St) : Ct G M_X12_isEnded d [.ref 84] σ (fun r σ' => ∃ x : Bool, r = some (.int (bI x)) ∧ σ = σ' ∧ True) := by
  refine wa_start (by decide) rfl (Nat.le_of_ble_eq_true rfl) (lv := [(0, .ref 84)]) rfl o_X12_isEnded_0 rfl ?_
  refine wa_aload_n (i := 0) rfl rfl ?_
  refine wa_geti ck_12 fl_12_1250 ly_84 ?_
  refine wa_if_le o_X12_isEnded_41 (by decide) (fun h1 => ?_) (fun h1 => ?_)
  · refine wa_iconst (v := 0) (by decide) ?_
    refine wa_zreturn false (rfl) rfl rfl ?_
    exact ⟨_, rfl, rfl, trivial⟩
  · refine wa_aload_n (i := 0) rfl rfl ?_
    refine wa_geti ck_12 fl_12_1247 ly_84 ?_
    refine wa_if_le o_X12_isEnded_41 (by decide) (fun h2 => ?_) (fun h2 => ?_)
    · refine wa_iconst (v := 0) (by decide) ?_
      refine wa_zreturn false (rfl) rfl rfl ?_
      exact ⟨_, rfl, rfl, trivial⟩
    · refine wa_aload_n (i := 0) rfl rfl ?_
      refine wa_getr ck_12 fl_12_441 ly_84 rf_84_186 ?_
      refine wa_aload_n (i := 0) rfl rfl ?_
      refine wa_geti ck_12 fl_12_1247 ly_84 ?_
      refine wa_zald ly_90 (by ((try simp only [vp_in_iff, Int32.lt_iff_toInt_lt, Int32.le_iff_toInt_le, ← Int32.toInt_inj, Int32.reduceToInt, n_1, n_2, n_8, Int32.toNatClampNeg, Int64.lt_iff_toInt_lt, Int64.le_iff_toInt_le, ← Int64.toInt_inj, Int64.reduceToInt, Int32.toInt_toInt64, lg_cmp_ge, lg_cmp_le, lg_cmp_gt, lg_cmp_lt, lg_cmp_eq, Bool.false_eq_true, Bool.true_eq_false, reduceCtorEq, false_iff, true_iff, iff_true, iff_false, and_true, true_and, and_false, false_and, reduceIte, ite_true, ite_false, eq_self] at *)) <;> omega) ?_
      refine wa_if_eq o_X12_isEnded_41 (by decide) (fun h3 => ?_) (fun h3 => ?_)
      · replace h3 := bI_f (b := (gb σ 90 (gi σ 84 187).toNatClampNeg)) (rfl) h3
        refine wa_iconst (v := 0) (by decide) ?_
        refine wa_zreturn false (rfl) rfl rfl ?_
        exact ⟨_, rfl, rfl, trivial⟩
      · replace h3 := bI_t (b := (gb σ 90 (gi σ 84 187).toNatClampNeg)) (rfl) h3
        refine wa_aload_n (i := 0) rfl rfl ?_
        refine wa_aload_n (i := 0) rfl rfl ?_
        refine wa_geti ck_12 fl_12_1247 ly_84 ?_
        refine wa_Vi (d9 := d - 1) [.int _] [] (sp_X12_isFalse G (d := d - 1) (by omega) σ _) (rfl) rfl rfl (zr (by omega)) mk_X12_isFalse ly_84 ml_12_1253 (Nat.le_of_ble_eq_true rfl) (fun x5 s4 hs4 => ?_)
        obtain ⟨bx5, ex5, zs4, -⟩ := pB hs4
        subst ex5
        subst zs4
        refine wa_if_eq o_X12_isEnded_41 (by decide) (fun h6 => ?_) (fun h6 => ?_)
        · replace h6 := bI_f (b := bx5) (rfl) h6
          refine wa_iconst (v := 0) (by decide) ?_
          refine wa_zreturn false (rfl) rfl rfl ?_
          exact ⟨_, rfl, rfl, trivial⟩
        · replace h6 := bI_t (b := bx5) (rfl) h6
          refine wa_iconst (v := 1) (by decide) ?_
          refine wa_goto o_X12_isEnded_42 (by decide) ?_
          refine wa_zreturn true (rfl) rfl rfl ?_
          exact ⟨_, rfl, rfl, trivial⟩
set_option maxHeartbeats 4000000 in
theorem sp_X12_forget (G : kG9) {d : Nat} (hd : 0 ≤ d) (σ : St) (a0 : Int32) : Ct G M_X12_forget d [.ref 84, .int a0] σ (fun r σ' => Fm [90] [] σ σ' ∧ True) := by
  refine wa_start (by decide) rfl (Nat.le_of_ble_eq_true rfl) (lv := [(0, .ref 84), (1, .int a0)]) rfl o_X12_forget_0 rfl ?_
  have ua0 := Int32.toInt_lt a0
  have wa0 := Int32.le_toInt a0
  refine wa_iload_n (i := 1) rfl rfl ?_
  refine wa_istore_nD (lv' := [(2, .int a0), (0, .ref 84), (1, .int a0)]) (i := 2) rfl (by decide) rfl ?_
  refine wa_pick [1, 0] rfl ?_
  have hi3 : ∀ (n9_2 : Nat) (l2 : Int32) (s1 : St), ((Fm [90] [] σ s1) ∧ (gi s1 84 187 = gi σ 84 187) ∧ (True)) → (2147483647 - l2.toInt).toNat = n9_2 → WA G M_X12_forget (ZM G M_X12_forget d (fun r σ' => Fm [90] [] σ σ' ∧ True)) B_X12_forget_2 [(0, .ref 84), (2, .int l2)] [] s1 := by
    intro n9_2
    induction n9_2 using Nat.strongRecOn with
    | _ n9_2 ih2 =>
      intro l2 s1 i9 m9_2
      obtain ⟨Fs1, khi3_0, -⟩ := i9
      have ul2 := Int32.toInt_lt l2
      have wl2 := Int32.le_toInt l2
      refine wa_iload_n (i := 2) rfl rfl ?_
      refine wa_aload_n (i := 0) rfl rfl ?_
      refine wa_geti ck_12 fl_12_1247 ly_84 ?_
      refine wa_rw (khi3_0) ?_
      refine wa_icmp_gt o_X12_forget_23 (by decide) (fun h4 => ?_) (fun h4 => ?_)
      · refine wa_return (st := []) rfl rfl ?_
        exact ⟨Fs1, trivial⟩
      · refine wa_aload_n (i := 0) rfl rfl ?_
        refine wa_getr ck_12 fl_12_441 ly_84 rf_84_186 ?_
        refine wa_iload_n (i := 2) rfl rfl ?_
        refine wa_iconst (v := 0) (by decide) ?_
        refine wa_zast false (rfl) ly_90 (by ((try simp only [vp_in_iff, Int32.lt_iff_toInt_lt, Int32.le_iff_toInt_le, ← Int32.toInt_inj, Int32.reduceToInt, n_1, n_2, n_8, Int32.toNatClampNeg, Int64.lt_iff_toInt_lt, Int64.le_iff_toInt_le, ← Int64.toInt_inj, Int64.reduceToInt, Int32.toInt_toInt64, lg_cmp_ge, lg_cmp_le, lg_cmp_gt, lg_cmp_lt, lg_cmp_eq, Bool.false_eq_true, Bool.true_eq_false, reduceCtorEq, false_iff, true_iff, iff_true, iff_false, and_true, true_and, and_false, false_and, reduceIte, ite_true, ite_false, eq_self] at *)) <;> omega) (fun s5 hs5 => ?_)
        have Fs5 : Fm [90] [] σ s5 := by rw [hs5]; exact Fm.sb Fs1 rfl
        refine wa_iinc (v := (1)) (lv' := fun y6 => [(2, .int y6), (0, .ref 84)]) (by decide) rfl (by decide) (fun _ => rfl) (fun y6 hy6 => ?_)
        have ty6 := i_addT hy6.symm
        clear hy6
        refine wa_goto o_X12_forget_2 (by decide) ?_
        refine wa_pick [1, 0] rfl ?_
        exact ih2 _ (by ((try simp only [vp_in_iff, Int32.lt_iff_toInt_lt, Int32.le_iff_toInt_le, ← Int32.toInt_inj, Int32.reduceToInt, n_1, n_2, n_8, Int32.toNatClampNeg, Int64.lt_iff_toInt_lt, Int64.le_iff_toInt_le, ← Int64.toInt_inj, Int64.reduceToInt, Int32.toInt_toInt64, lg_cmp_ge, lg_cmp_le, lg_cmp_gt, lg_cmp_lt, lg_cmp_eq, Bool.false_eq_true, Bool.true_eq_false, reduceCtorEq, false_iff, true_iff, iff_true, iff_false, and_true, true_and, and_false, false_and, reduceIte, ite_true, ite_false, eq_self] at *)) <;> omega) _ _ ⟨Fs5, ((nx_gi_sb hs5).trans (khi3_0)), trivial⟩ rfl
  exact hi3 _ _ _ ⟨(Fm.rf [90] [] σ), (rfl), trivial⟩ rfl
set_option maxHeartbeats 4000000 in
theorem sp_X12_isProofSize (G : kG9) {d : Nat} (hd : 0 ≤ d) (σ : St) (a0 : Int64) : Ct G M_X12_isProofSize d [.ref 84, .long a0] σ (fun r σ' => ∃ x : Bool, r = some (.int (bI x)) ∧ σ = σ' ∧ True) := by
  refine wa_start (by decide) rfl (Nat.le_of_ble_eq_true rfl) (lv := [(0, .ref 84), (1, .long a0)]) rfl o_X12_isProofSize_0 rfl ?_
  refine wa_lload_n (i := 1) rfl rfl ?_
  refine wa_ldc2 (v := (-1000000000000)) (allW_in (kT_15 _ (List.mem_of_getElem? (i := 202) rfl)) rfl) ?_
  refine wa_lcmp ?_
  refine wa_top (fun v1 hv1 => ?_)
  have tv1 := i_cmpT hv1
  clear hv1
  refine wa_if_lt o_X12_isProofSize_20 (by decide) (fun h2 => ?_) (fun h2 => ?_)
  · refine wa_iconst (v := 0) (by decide) ?_
    refine wa_zreturn false (rfl) rfl rfl ?_
    exact ⟨_, rfl, rfl, trivial⟩
  · refine wa_lload_n (i := 1) rfl rfl ?_
    refine wa_ldc2 (v := (1000000000000)) (allW_in (kT_14 _ (List.mem_of_getElem? (i := 58) rfl)) rfl) ?_
    refine wa_lcmp ?_
    refine wa_top (fun v3 hv3 => ?_)
    have tv3 := i_cmpT hv3
    clear hv3
    refine wa_if_gt o_X12_isProofSize_20 (by decide) (fun h4 => ?_) (fun h4 => ?_)
    · refine wa_iconst (v := 0) (by decide) ?_
      refine wa_zreturn false (rfl) rfl rfl ?_
      exact ⟨_, rfl, rfl, trivial⟩
    · refine wa_iconst (v := 1) (by decide) ?_
      refine wa_goto o_X12_isProofSize_21 (by decide) ?_
      refine wa_zreturn true (rfl) rfl rfl ?_
      exact ⟨_, rfl, rfl, trivial⟩
set_option maxHeartbeats 4000000 in
theorem sp_X12_addLine (G : kG9) {d : Nat} (hd : 1 ≤ d) (σ : St) : Ct G M_X12_addLine d [.ref 84] σ (fun r σ' => ∃ x : Bool, r = some (.int (bI x)) ∧ Fm [90, 91, 92] [187] σ σ' ∧ True) := by
  refine wa_start (by decide) rfl (Nat.le_of_ble_eq_true rfl) (lv := [(0, .ref 84)]) rfl o_X12_addLine_0 rfl ?_
  refine wa_aload_n (i := 0) rfl rfl ?_
  refine wa_geti ck_12 fl_12_1247 ly_84 ?_
  refine wa_sipush (v := 200) (by decide) ?_
  refine wa_icmp_ge o_X12_addLine_25 (by decide) (fun h1 => ?_) (fun h1 => ?_)
  · refine wa_iconst (v := 0) (by decide) ?_
    refine wa_istore_nD (lv' := [(1, .int (bI false)), (0, .ref 84)]) (i := 1) rfl (by decide) rfl ?_
    refine wa_iconst (v := 0) (by decide) ?_
    refine wa_istore_nD (lv' := [(2, .int 0), (1, .int (bI false)), (0, .ref 84)]) (i := 2) rfl (by decide) rfl ?_
    refine wa_pick [2, 1, 0] rfl ?_
    have hi4 : ∀ (n9_29 : Nat) (l1 : Bool) (l2 : Int32) (s2 : St), ((Fm [90, 91, 92] [187] σ s2) ∧ (gi s2 84 187 = gi σ 84 187) ∧ (gl s2 84 101 = gl σ 84 101) ∧ (0 ≤ l2.toInt) ∧ (True)) → (2147483647 - l2.toInt).toNat = n9_29 → WA G M_X12_addLine (ZM G M_X12_addLine d (fun r σ' => ∃ x : Bool, r = some (.int (bI x)) ∧ Fm [90, 91, 92] [187] σ σ' ∧ True)) B_X12_addLine_29 [(0, .ref 84), (1, .int (bI l1)), (2, .int l2)] [] s2 := by
      intro n9_29
      induction n9_29 using Nat.strongRecOn with
      | _ n9_29 ih3 =>
        intro l1 l2 s2 i9 m9_29
        obtain ⟨Fs2, khi4_0, khi4_1, jhi4_0, -⟩ := i9
        have ul2 := Int32.toInt_lt l2
        have wl2 := Int32.le_toInt l2
        refine wa_iload_n (i := 2) rfl rfl ?_
        refine wa_iconst (v := 4) (by decide) ?_
        refine wa_icmp_ge o_X12_addLine_63 (by decide) (fun h5 => ?_) (fun h5 => ?_)
        · refine wa_iload_n (i := 1) rfl rfl ?_
          refine wa_if_ne o_X12_addLine_69 (by decide) (fun h6 => ?_) (fun h6 => ?_)
          · replace h6 := bI_t (b := l1) (rfl) h6
            refine wa_aload_n (i := 0) rfl rfl ?_
            refine wa_dup rfl ?_
            refine wa_geti ck_12 fl_12_1247 ly_84 ?_
            refine wa_rw (khi4_0) ?_
            refine wa_iconst (v := 1) (by decide) ?_
            refine wa_iadd ?_
            refine wa_top (fun v7 hv7 => ?_)
            have tv7 := i_addT hv7
            clear hv7
            refine wa_puti ck_12 fl_12_1247 ly_84 (fun s8 hs8 => ?_)
            have Fs8 : Fm [90, 91, 92] [187] σ s8 := by rw [hs8]; exact Fm.si Fs2 rfl
            refine wa_iconst (v := 0) (by decide) ?_
            refine wa_istore_nD (lv' := [(2, .int 0), (0, .ref 84), (1, .int (bI l1))]) (i := 2) rfl (by decide) rfl ?_
            refine wa_pick [1, 0] rfl ?_
            have hi11 : ∀ (n9_81 : Nat) (l2 : Int32) (s9 : St), ((Fm [90, 91, 92] [187] σ s9) ∧ (gi s9 84 187 = v7) ∧ (gl s9 84 101 = gl σ 84 101) ∧ (0 ≤ l2.toInt) ∧ (True)) → (2147483647 - l2.toInt).toNat = n9_81 → WA G M_X12_addLine (ZM G M_X12_addLine d (fun r σ' => ∃ x : Bool, r = some (.int (bI x)) ∧ Fm [90, 91, 92] [187] σ σ' ∧ True)) B_X12_addLine_81 [(0, .ref 84), (2, .int l2)] [] s9 := by
              intro n9_81
              induction n9_81 using Nat.strongRecOn with
              | _ n9_81 ih10 =>
                intro l2 s9 i9 m9_81
                obtain ⟨Fs9, khi11_0, khi11_1, jhi11_0, -⟩ := i9
                have ul2 := Int32.toInt_lt l2
                have wl2 := Int32.le_toInt l2
                refine wa_iload_n (i := 2) rfl rfl ?_
                refine wa_iconst (v := 4) (by decide) ?_
                refine wa_icmp_ge o_X12_addLine_111 (by decide) (fun h12 => ?_) (fun h12 => ?_)
                · refine wa_aload_n (i := 0) rfl rfl ?_
                  refine wa_getr ck_12 fl_12_438 ly_84 rf_84_185 ?_
                  refine wa_aload_n (i := 0) rfl rfl ?_
                  refine wa_geti ck_12 fl_12_1247 ly_84 ?_
                  refine wa_rw (khi11_0) ?_
                  refine wa_aload_n (i := 0) rfl rfl ?_
                  refine wa_getl ck_12 fl_12_736 ly_84 ?_
                  refine wa_rwl (khi11_1) ?_
                  refine wa_last ly_91 (by ((try simp only [vp_in_iff, Int32.lt_iff_toInt_lt, Int32.le_iff_toInt_le, ← Int32.toInt_inj, Int32.reduceToInt, n_1, n_2, n_8, Int32.toNatClampNeg, Int64.lt_iff_toInt_lt, Int64.le_iff_toInt_le, ← Int64.toInt_inj, Int64.reduceToInt, Int32.toInt_toInt64, lg_cmp_ge, lg_cmp_le, lg_cmp_gt, lg_cmp_lt, lg_cmp_eq, Bool.false_eq_true, Bool.true_eq_false, reduceCtorEq, false_iff, true_iff, iff_true, iff_false, and_true, true_and, and_false, false_and, reduceIte, ite_true, ite_false, eq_self] at *)) <;> omega) (fun s13 hs13 => ?_)
                  have Fs13 : Fm [90, 91, 92] [187] σ s13 := by rw [hs13]; exact Fm.sl Fs9 rfl
                  refine wa_aload_n (i := 0) rfl rfl ?_
                  refine wa_getr ck_12 fl_12_441 ly_84 rf_84_186 ?_
                  refine wa_aload_n (i := 0) rfl rfl ?_
                  refine wa_geti ck_12 fl_12_1247 ly_84 ?_
                  refine wa_rw ((nx_gi_sl hs13).trans (khi11_0)) ?_
                  refine wa_iconst (v := 1) (by decide) ?_
                  refine wa_zast true (rfl) ly_90 (by ((try simp only [vp_in_iff, Int32.lt_iff_toInt_lt, Int32.le_iff_toInt_le, ← Int32.toInt_inj, Int32.reduceToInt, n_1, n_2, n_8, Int32.toNatClampNeg, Int64.lt_iff_toInt_lt, Int64.le_iff_toInt_le, ← Int64.toInt_inj, Int64.reduceToInt, Int32.toInt_toInt64, lg_cmp_ge, lg_cmp_le, lg_cmp_gt, lg_cmp_lt, lg_cmp_eq, Bool.false_eq_true, Bool.true_eq_false, reduceCtorEq, false_iff, true_iff, iff_true, iff_false, and_true, true_and, and_false, false_and, reduceIte, ite_true, ite_false, eq_self] at *)) <;> omega) (fun s14 hs14 => ?_)
                  have Fs14 : Fm [90, 91, 92] [187] σ s14 := by rw [hs14]; exact Fm.sb Fs13 rfl
                  refine wa_iconst (v := 1) (by decide) ?_
                  refine wa_zreturn true (rfl) rfl rfl ?_
                  exact ⟨_, rfl, Fs14, trivial⟩
                · have mh12 := nle_mx h12
                  refine wa_aload_n (i := 0) rfl rfl ?_
                  refine wa_getr ck_12 fl_12_435 ly_84 rf_84_184 ?_
                  refine wa_iconst (v := 4) (by decide) ?_
                  refine wa_aload_n (i := 0) rfl rfl ?_
                  refine wa_geti ck_12 fl_12_1247 ly_84 ?_
                  refine wa_rw (khi11_0) ?_
                  refine wa_imul ?_
                  refine wa_top (fun v15 hv15 => ?_)
                  have tv15 := i_mulT hv15
                  clear hv15
                  refine wa_iload_n (i := 2) rfl rfl ?_
                  refine wa_iadd ?_
                  refine wa_top (fun v16 hv16 => ?_)
                  have tv16 := i_addT hv16
                  clear hv16
                  refine wa_aload_n (i := 0) rfl rfl ?_
                  refine wa_getr ck_12 fl_12_262 ly_84 rf_84_100 ?_
                  refine wa_iload_n (i := 2) rfl rfl ?_
                  refine wa_lald ly_147 (by ((try simp only [vp_in_iff, Int32.lt_iff_toInt_lt, Int32.le_iff_toInt_le, ← Int32.toInt_inj, Int32.reduceToInt, n_1, n_2, n_8, Int32.toNatClampNeg, Int64.lt_iff_toInt_lt, Int64.le_iff_toInt_le, ← Int64.toInt_inj, Int64.reduceToInt, Int32.toInt_toInt64, lg_cmp_ge, lg_cmp_le, lg_cmp_gt, lg_cmp_lt, lg_cmp_eq, Bool.false_eq_true, Bool.true_eq_false, reduceCtorEq, false_iff, true_iff, iff_true, iff_false, and_true, true_and, and_false, false_and, reduceIte, ite_true, ite_false, eq_self] at *)) <;> omega) ?_
                  refine wa_last ly_92 (by ((try simp only [vp_in_iff, Int32.lt_iff_toInt_lt, Int32.le_iff_toInt_le, ← Int32.toInt_inj, Int32.reduceToInt, n_1, n_2, n_8, Int32.toNatClampNeg, Int64.lt_iff_toInt_lt, Int64.le_iff_toInt_le, ← Int64.toInt_inj, Int64.reduceToInt, Int32.toInt_toInt64, lg_cmp_ge, lg_cmp_le, lg_cmp_gt, lg_cmp_lt, lg_cmp_eq, Bool.false_eq_true, Bool.true_eq_false, reduceCtorEq, false_iff, true_iff, iff_true, iff_false, and_true, true_and, and_false, false_and, reduceIte, ite_true, ite_false, eq_self] at *)) <;> omega) (fun s17 hs17 => ?_)
                  have Fs17 : Fm [90, 91, 92] [187] σ s17 := by rw [hs17]; exact Fm.sl Fs9 rfl
                  refine wa_iinc (v := (1)) (lv' := fun y18 => [(2, .int y18), (0, .ref 84)]) (by decide) rfl (by decide) (fun _ => rfl) (fun y18 hy18 => ?_)
                  have ty18 := i_addT hy18.symm
                  clear hy18
                  refine wa_goto o_X12_addLine_81 (by decide) ?_
                  refine wa_pick [1, 0] rfl ?_
                  exact ih10 _ (by ((try simp only [vp_in_iff, Int32.lt_iff_toInt_lt, Int32.le_iff_toInt_le, ← Int32.toInt_inj, Int32.reduceToInt, n_1, n_2, n_8, Int32.toNatClampNeg, Int64.lt_iff_toInt_lt, Int64.le_iff_toInt_le, ← Int64.toInt_inj, Int64.reduceToInt, Int32.toInt_toInt64, lg_cmp_ge, lg_cmp_le, lg_cmp_gt, lg_cmp_lt, lg_cmp_eq, Bool.false_eq_true, Bool.true_eq_false, reduceCtorEq, false_iff, true_iff, iff_true, iff_false, and_true, true_and, and_false, false_and, reduceIte, ite_true, ite_false, eq_self] at *)) <;> omega) _ _ ⟨Fs17, ((nx_gi_sl hs17).trans (khi11_0)), ((nxq_gl_sl hs17 (by decide)).trans (khi11_1)), (by ((try simp only [vp_in_iff, Int32.lt_iff_toInt_lt, Int32.le_iff_toInt_le, ← Int32.toInt_inj, Int32.reduceToInt, n_1, n_2, n_8, Int32.toNatClampNeg, Int64.lt_iff_toInt_lt, Int64.le_iff_toInt_le, ← Int64.toInt_inj, Int64.reduceToInt, Int32.toInt_toInt64, lg_cmp_ge, lg_cmp_le, lg_cmp_gt, lg_cmp_lt, lg_cmp_eq, Bool.false_eq_true, Bool.true_eq_false, reduceCtorEq, false_iff, true_iff, iff_true, iff_false, and_true, true_and, and_false, false_and, reduceIte, ite_true, ite_false, eq_self] at *)) <;> omega), trivial⟩ rfl
            exact hi11 _ _ _ ⟨Fs8, (nxe_gi_si hs8), ((nx_gl_si hs8).trans (khi4_1)), (by ((try simp only [vp_in_iff, Int32.lt_iff_toInt_lt, Int32.le_iff_toInt_le, ← Int32.toInt_inj, Int32.reduceToInt, n_1, n_2, n_8, Int32.toNatClampNeg, Int64.lt_iff_toInt_lt, Int64.le_iff_toInt_le, ← Int64.toInt_inj, Int64.reduceToInt, Int32.toInt_toInt64, lg_cmp_ge, lg_cmp_le, lg_cmp_gt, lg_cmp_lt, lg_cmp_eq, Bool.false_eq_true, Bool.true_eq_false, reduceCtorEq, false_iff, true_iff, iff_true, iff_false, and_true, true_and, and_false, false_and, reduceIte, ite_true, ite_false, eq_self] at *)) <;> omega), trivial⟩ rfl
          · replace h6 := bI_f (b := l1) (rfl) h6
            refine wa_iconst (v := 0) (by decide) ?_
            refine wa_zreturn false (rfl) rfl rfl ?_
            exact ⟨_, rfl, Fs2, trivial⟩
        · have mh5 := nle_mx h5
          refine wa_iload_n (i := 1) rfl rfl ?_
          refine wa_if_eq o_X12_addLine_55 (by decide) (fun h19 => ?_) (fun h19 => ?_)
          · replace h19 := bI_f (b := l1) (rfl) h19
            refine wa_iconst (v := 0) (by decide) ?_
            refine wa_istore_nD (lv' := [(1, .int (bI false)), (0, .ref 84), (2, .int l2)]) (i := 1) rfl (by decide) rfl ?_
            refine wa_iinc (v := (1)) (lv' := fun y20 => [(2, .int y20), (1, .int (bI false)), (0, .ref 84)]) (by decide) rfl (by decide) (fun _ => rfl) (fun y20 hy20 => ?_)
            have ty20 := i_addT hy20.symm
            clear hy20
            refine wa_goto o_X12_addLine_29 (by decide) ?_
            refine wa_pick [2, 1, 0] rfl ?_
            exact ih3 _ (by ((try simp only [vp_in_iff, Int32.lt_iff_toInt_lt, Int32.le_iff_toInt_le, ← Int32.toInt_inj, Int32.reduceToInt, n_1, n_2, n_8, Int32.toNatClampNeg, Int64.lt_iff_toInt_lt, Int64.le_iff_toInt_le, ← Int64.toInt_inj, Int64.reduceToInt, Int32.toInt_toInt64, lg_cmp_ge, lg_cmp_le, lg_cmp_gt, lg_cmp_lt, lg_cmp_eq, Bool.false_eq_true, Bool.true_eq_false, reduceCtorEq, false_iff, true_iff, iff_true, iff_false, and_true, true_and, and_false, false_and, reduceIte, ite_true, ite_false, eq_self] at *)) <;> omega) _ _ _ ⟨Fs2, (khi4_0), (khi4_1), (by ((try simp only [vp_in_iff, Int32.lt_iff_toInt_lt, Int32.le_iff_toInt_le, ← Int32.toInt_inj, Int32.reduceToInt, n_1, n_2, n_8, Int32.toNatClampNeg, Int64.lt_iff_toInt_lt, Int64.le_iff_toInt_le, ← Int64.toInt_inj, Int64.reduceToInt, Int32.toInt_toInt64, lg_cmp_ge, lg_cmp_le, lg_cmp_gt, lg_cmp_lt, lg_cmp_eq, Bool.false_eq_true, Bool.true_eq_false, reduceCtorEq, false_iff, true_iff, iff_true, iff_false, and_true, true_and, and_false, false_and, reduceIte, ite_true, ite_false, eq_self] at *)) <;> omega), trivial⟩ rfl
          · replace h19 := bI_t (b := l1) (rfl) h19
            refine wa_aload_n (i := 0) rfl rfl ?_
            refine wa_aload_n (i := 0) rfl rfl ?_
            refine wa_getr ck_12 fl_12_262 ly_84 rf_84_100 ?_
            refine wa_iload_n (i := 2) rfl rfl ?_
            refine wa_lald ly_147 (by ((try simp only [vp_in_iff, Int32.lt_iff_toInt_lt, Int32.le_iff_toInt_le, ← Int32.toInt_inj, Int32.reduceToInt, n_1, n_2, n_8, Int32.toNatClampNeg, Int64.lt_iff_toInt_lt, Int64.le_iff_toInt_le, ← Int64.toInt_inj, Int64.reduceToInt, Int32.toInt_toInt64, lg_cmp_ge, lg_cmp_le, lg_cmp_gt, lg_cmp_lt, lg_cmp_eq, Bool.false_eq_true, Bool.true_eq_false, reduceCtorEq, false_iff, true_iff, iff_true, iff_false, and_true, true_and, and_false, false_and, reduceIte, ite_true, ite_false, eq_self] at *)) <;> omega) ?_
            refine wa_Vi (d9 := d - 1) [.long _] [] (sp_X12_isProofSize G (d := d - 1) (by omega) s2 _) (rfl) rfl rfl (zr (by omega)) mk_X12_isProofSize ly_84 ml_12_1258 (Nat.le_of_ble_eq_true rfl) (fun x22 s21 hs21 => ?_)
            obtain ⟨bx22, ex22, zs21, -⟩ := pB hs21
            subst ex22
            subst zs21
            refine wa_if_eq o_X12_addLine_55 (by decide) (fun h23 => ?_) (fun h23 => ?_)
            · replace h23 := bI_f (b := bx22) (rfl) h23
              refine wa_iconst (v := 0) (by decide) ?_
              refine wa_istore_nD (lv' := [(1, .int (bI false)), (0, .ref 84), (2, .int l2)]) (i := 1) rfl (by decide) rfl ?_
              refine wa_iinc (v := (1)) (lv' := fun y24 => [(2, .int y24), (1, .int (bI false)), (0, .ref 84)]) (by decide) rfl (by decide) (fun _ => rfl) (fun y24 hy24 => ?_)
              have ty24 := i_addT hy24.symm
              clear hy24
              refine wa_goto o_X12_addLine_29 (by decide) ?_
              refine wa_pick [2, 1, 0] rfl ?_
              exact ih3 _ (by ((try simp only [vp_in_iff, Int32.lt_iff_toInt_lt, Int32.le_iff_toInt_le, ← Int32.toInt_inj, Int32.reduceToInt, n_1, n_2, n_8, Int32.toNatClampNeg, Int64.lt_iff_toInt_lt, Int64.le_iff_toInt_le, ← Int64.toInt_inj, Int64.reduceToInt, Int32.toInt_toInt64, lg_cmp_ge, lg_cmp_le, lg_cmp_gt, lg_cmp_lt, lg_cmp_eq, Bool.false_eq_true, Bool.true_eq_false, reduceCtorEq, false_iff, true_iff, iff_true, iff_false, and_true, true_and, and_false, false_and, reduceIte, ite_true, ite_false, eq_self] at *)) <;> omega) _ _ _ ⟨Fs2, (khi4_0), (khi4_1), (by ((try simp only [vp_in_iff, Int32.lt_iff_toInt_lt, Int32.le_iff_toInt_le, ← Int32.toInt_inj, Int32.reduceToInt, n_1, n_2, n_8, Int32.toNatClampNeg, Int64.lt_iff_toInt_lt, Int64.le_iff_toInt_le, ← Int64.toInt_inj, Int64.reduceToInt, Int32.toInt_toInt64, lg_cmp_ge, lg_cmp_le, lg_cmp_gt, lg_cmp_lt, lg_cmp_eq, Bool.false_eq_true, Bool.true_eq_false, reduceCtorEq, false_iff, true_iff, iff_true, iff_false, and_true, true_and, and_false, false_and, reduceIte, ite_true, ite_false, eq_self] at *)) <;> omega), trivial⟩ rfl
            · replace h23 := bI_t (b := bx22) (rfl) h23
              refine wa_iconst (v := 1) (by decide) ?_
              refine wa_goto o_X12_addLine_56 (by decide) ?_
              refine wa_istore_nD (lv' := [(1, .int (bI true)), (0, .ref 84), (2, .int l2)]) (i := 1) rfl (by decide) rfl ?_
              refine wa_iinc (v := (1)) (lv' := fun y25 => [(2, .int y25), (1, .int (bI true)), (0, .ref 84)]) (by decide) rfl (by decide) (fun _ => rfl) (fun y25 hy25 => ?_)
              have ty25 := i_addT hy25.symm
              clear hy25
              refine wa_goto o_X12_addLine_29 (by decide) ?_
              refine wa_pick [2, 1, 0] rfl ?_
              exact ih3 _ (by ((try simp only [vp_in_iff, Int32.lt_iff_toInt_lt, Int32.le_iff_toInt_le, ← Int32.toInt_inj, Int32.reduceToInt, n_1, n_2, n_8, Int32.toNatClampNeg, Int64.lt_iff_toInt_lt, Int64.le_iff_toInt_le, ← Int64.toInt_inj, Int64.reduceToInt, Int32.toInt_toInt64, lg_cmp_ge, lg_cmp_le, lg_cmp_gt, lg_cmp_lt, lg_cmp_eq, Bool.false_eq_true, Bool.true_eq_false, reduceCtorEq, false_iff, true_iff, iff_true, iff_false, and_true, true_and, and_false, false_and, reduceIte, ite_true, ite_false, eq_self] at *)) <;> omega) _ _ _ ⟨Fs2, (khi4_0), (khi4_1), (by ((try simp only [vp_in_iff, Int32.lt_iff_toInt_lt, Int32.le_iff_toInt_le, ← Int32.toInt_inj, Int32.reduceToInt, n_1, n_2, n_8, Int32.toNatClampNeg, Int64.lt_iff_toInt_lt, Int64.le_iff_toInt_le, ← Int64.toInt_inj, Int64.reduceToInt, Int32.toInt_toInt64, lg_cmp_ge, lg_cmp_le, lg_cmp_gt, lg_cmp_lt, lg_cmp_eq, Bool.false_eq_true, Bool.true_eq_false, reduceCtorEq, false_iff, true_iff, iff_true, iff_false, and_true, true_and, and_false, false_and, reduceIte, ite_true, ite_false, eq_self] at *)) <;> omega), trivial⟩ rfl
    exact hi4 _ _ _ _ ⟨(Fm.rf [90, 91, 92] [187] σ), (rfl), (rfl), (by ((try simp only [vp_in_iff, Int32.lt_iff_toInt_lt, Int32.le_iff_toInt_le, ← Int32.toInt_inj, Int32.reduceToInt, n_1, n_2, n_8, Int32.toNatClampNeg, Int64.lt_iff_toInt_lt, Int64.le_iff_toInt_le, ← Int64.toInt_inj, Int64.reduceToInt, Int32.toInt_toInt64, lg_cmp_ge, lg_cmp_le, lg_cmp_gt, lg_cmp_lt, lg_cmp_eq, Bool.false_eq_true, Bool.true_eq_false, reduceCtorEq, false_iff, true_iff, iff_true, iff_false, and_true, true_and, and_false, false_and, reduceIte, ite_true, ite_false, eq_self] at *)) <;> omega), trivial⟩ rfl
  · have mh1 := nle_mx h1
    refine wa_aload_n (i := 0) rfl rfl ?_
    refine wa_aload_n (i := 0) rfl rfl ?_
    refine wa_getl ck_12 fl_12_736 ly_84 ?_
    refine wa_Vi (d9 := d - 1) [.long _] [] (sp_X12_isProofSize G (d := d - 1) (by omega) σ _) (rfl) rfl rfl (zr (by omega)) mk_X12_isProofSize ly_84 ml_12_1258 (Nat.le_of_ble_eq_true rfl) (fun x27 s26 hs26 => ?_)
    obtain ⟨bx27, ex27, zs26, -⟩ := pB hs26
    subst ex27
    subst zs26
    refine wa_if_eq o_X12_addLine_25 (by decide) (fun h28 => ?_) (fun h28 => ?_)
    · replace h28 := bI_f (b := bx27) (rfl) h28
      refine wa_iconst (v := 0) (by decide) ?_
      refine wa_istore_nD (lv' := [(1, .int (bI false)), (0, .ref 84)]) (i := 1) rfl (by decide) rfl ?_
      refine wa_iconst (v := 0) (by decide) ?_
      refine wa_istore_nD (lv' := [(2, .int 0), (1, .int (bI false)), (0, .ref 84)]) (i := 2) rfl (by decide) rfl ?_
      refine wa_pick [2, 1, 0] rfl ?_
      have hi31 : ∀ (n9_29 : Nat) (l1 : Bool) (l2 : Int32) (s29 : St), ((Fm [90, 91, 92] [187] σ s29) ∧ (gi s29 84 187 = gi σ 84 187) ∧ (gl s29 84 101 = gl σ 84 101) ∧ (0 ≤ l2.toInt) ∧ (True)) → (2147483647 - l2.toInt).toNat = n9_29 → WA G M_X12_addLine (ZM G M_X12_addLine d (fun r σ' => ∃ x : Bool, r = some (.int (bI x)) ∧ Fm [90, 91, 92] [187] σ σ' ∧ True)) B_X12_addLine_29 [(0, .ref 84), (1, .int (bI l1)), (2, .int l2)] [] s29 := by
        intro n9_29
        induction n9_29 using Nat.strongRecOn with
        | _ n9_29 ih30 =>
          intro l1 l2 s29 i9 m9_29
          obtain ⟨Fs29, khi31_0, khi31_1, jhi31_0, -⟩ := i9
          have ul2 := Int32.toInt_lt l2
          have wl2 := Int32.le_toInt l2
          refine wa_iload_n (i := 2) rfl rfl ?_
          refine wa_iconst (v := 4) (by decide) ?_
          refine wa_icmp_ge o_X12_addLine_63 (by decide) (fun h32 => ?_) (fun h32 => ?_)
          · refine wa_iload_n (i := 1) rfl rfl ?_
            refine wa_if_ne o_X12_addLine_69 (by decide) (fun h33 => ?_) (fun h33 => ?_)
            · replace h33 := bI_t (b := l1) (rfl) h33
              refine wa_aload_n (i := 0) rfl rfl ?_
              refine wa_dup rfl ?_
              refine wa_geti ck_12 fl_12_1247 ly_84 ?_
              refine wa_rw (khi31_0) ?_
              refine wa_iconst (v := 1) (by decide) ?_
              refine wa_iadd ?_
              refine wa_top (fun v34 hv34 => ?_)
              have tv34 := i_addT hv34
              clear hv34
              refine wa_puti ck_12 fl_12_1247 ly_84 (fun s35 hs35 => ?_)
              have Fs35 : Fm [90, 91, 92] [187] σ s35 := by rw [hs35]; exact Fm.si Fs29 rfl
              refine wa_iconst (v := 0) (by decide) ?_
              refine wa_istore_nD (lv' := [(2, .int 0), (0, .ref 84), (1, .int (bI l1))]) (i := 2) rfl (by decide) rfl ?_
              refine wa_pick [1, 0] rfl ?_
              have hi38 : ∀ (n9_81 : Nat) (l2 : Int32) (s36 : St), ((Fm [90, 91, 92] [187] σ s36) ∧ (gi s36 84 187 = v34) ∧ (gl s36 84 101 = gl σ 84 101) ∧ (0 ≤ l2.toInt) ∧ (True)) → (2147483647 - l2.toInt).toNat = n9_81 → WA G M_X12_addLine (ZM G M_X12_addLine d (fun r σ' => ∃ x : Bool, r = some (.int (bI x)) ∧ Fm [90, 91, 92] [187] σ σ' ∧ True)) B_X12_addLine_81 [(0, .ref 84), (2, .int l2)] [] s36 := by
                intro n9_81
                induction n9_81 using Nat.strongRecOn with
                | _ n9_81 ih37 =>
                  intro l2 s36 i9 m9_81
                  obtain ⟨Fs36, khi38_0, khi38_1, jhi38_0, -⟩ := i9
                  have ul2 := Int32.toInt_lt l2
                  have wl2 := Int32.le_toInt l2
                  refine wa_iload_n (i := 2) rfl rfl ?_
                  refine wa_iconst (v := 4) (by decide) ?_
                  refine wa_icmp_ge o_X12_addLine_111 (by decide) (fun h39 => ?_) (fun h39 => ?_)
                  · refine wa_aload_n (i := 0) rfl rfl ?_
                    refine wa_getr ck_12 fl_12_438 ly_84 rf_84_185 ?_
                    refine wa_aload_n (i := 0) rfl rfl ?_
                    refine wa_geti ck_12 fl_12_1247 ly_84 ?_
                    refine wa_rw (khi38_0) ?_
                    refine wa_aload_n (i := 0) rfl rfl ?_
                    refine wa_getl ck_12 fl_12_736 ly_84 ?_
                    refine wa_rwl (khi38_1) ?_
                    refine wa_last ly_91 (by ((try simp only [vp_in_iff, Int32.lt_iff_toInt_lt, Int32.le_iff_toInt_le, ← Int32.toInt_inj, Int32.reduceToInt, n_1, n_2, n_8, Int32.toNatClampNeg, Int64.lt_iff_toInt_lt, Int64.le_iff_toInt_le, ← Int64.toInt_inj, Int64.reduceToInt, Int32.toInt_toInt64, lg_cmp_ge, lg_cmp_le, lg_cmp_gt, lg_cmp_lt, lg_cmp_eq, Bool.false_eq_true, Bool.true_eq_false, reduceCtorEq, false_iff, true_iff, iff_true, iff_false, and_true, true_and, and_false, false_and, reduceIte, ite_true, ite_false, eq_self] at *)) <;> omega) (fun s40 hs40 => ?_)
                    have Fs40 : Fm [90, 91, 92] [187] σ s40 := by rw [hs40]; exact Fm.sl Fs36 rfl
                    refine wa_aload_n (i := 0) rfl rfl ?_
                    refine wa_getr ck_12 fl_12_441 ly_84 rf_84_186 ?_
                    refine wa_aload_n (i := 0) rfl rfl ?_
                    refine wa_geti ck_12 fl_12_1247 ly_84 ?_
                    refine wa_rw ((nx_gi_sl hs40).trans (khi38_0)) ?_
                    refine wa_iconst (v := 1) (by decide) ?_
                    refine wa_zast true (rfl) ly_90 (by ((try simp only [vp_in_iff, Int32.lt_iff_toInt_lt, Int32.le_iff_toInt_le, ← Int32.toInt_inj, Int32.reduceToInt, n_1, n_2, n_8, Int32.toNatClampNeg, Int64.lt_iff_toInt_lt, Int64.le_iff_toInt_le, ← Int64.toInt_inj, Int64.reduceToInt, Int32.toInt_toInt64, lg_cmp_ge, lg_cmp_le, lg_cmp_gt, lg_cmp_lt, lg_cmp_eq, Bool.false_eq_true, Bool.true_eq_false, reduceCtorEq, false_iff, true_iff, iff_true, iff_false, and_true, true_and, and_false, false_and, reduceIte, ite_true, ite_false, eq_self] at *)) <;> omega) (fun s41 hs41 => ?_)
                    have Fs41 : Fm [90, 91, 92] [187] σ s41 := by rw [hs41]; exact Fm.sb Fs40 rfl
                    refine wa_iconst (v := 1) (by decide) ?_
                    refine wa_zreturn true (rfl) rfl rfl ?_
                    exact ⟨_, rfl, Fs41, trivial⟩
                  · have mh39 := nle_mx h39
                    refine wa_aload_n (i := 0) rfl rfl ?_
                    refine wa_getr ck_12 fl_12_435 ly_84 rf_84_184 ?_
                    refine wa_iconst (v := 4) (by decide) ?_
                    refine wa_aload_n (i := 0) rfl rfl ?_
                    refine wa_geti ck_12 fl_12_1247 ly_84 ?_
                    refine wa_rw (khi38_0) ?_
                    refine wa_imul ?_
                    refine wa_top (fun v42 hv42 => ?_)
                    have tv42 := i_mulT hv42
                    clear hv42
                    refine wa_iload_n (i := 2) rfl rfl ?_
                    refine wa_iadd ?_
                    refine wa_top (fun v43 hv43 => ?_)
                    have tv43 := i_addT hv43
                    clear hv43
                    refine wa_aload_n (i := 0) rfl rfl ?_
                    refine wa_getr ck_12 fl_12_262 ly_84 rf_84_100 ?_
                    refine wa_iload_n (i := 2) rfl rfl ?_
                    refine wa_lald ly_147 (by ((try simp only [vp_in_iff, Int32.lt_iff_toInt_lt, Int32.le_iff_toInt_le, ← Int32.toInt_inj, Int32.reduceToInt, n_1, n_2, n_8, Int32.toNatClampNeg, Int64.lt_iff_toInt_lt, Int64.le_iff_toInt_le, ← Int64.toInt_inj, Int64.reduceToInt, Int32.toInt_toInt64, lg_cmp_ge, lg_cmp_le, lg_cmp_gt, lg_cmp_lt, lg_cmp_eq, Bool.false_eq_true, Bool.true_eq_false, reduceCtorEq, false_iff, true_iff, iff_true, iff_false, and_true, true_and, and_false, false_and, reduceIte, ite_true, ite_false, eq_self] at *)) <;> omega) ?_
                    refine wa_last ly_92 (by ((try simp only [vp_in_iff, Int32.lt_iff_toInt_lt, Int32.le_iff_toInt_le, ← Int32.toInt_inj, Int32.reduceToInt, n_1, n_2, n_8, Int32.toNatClampNeg, Int64.lt_iff_toInt_lt, Int64.le_iff_toInt_le, ← Int64.toInt_inj, Int64.reduceToInt, Int32.toInt_toInt64, lg_cmp_ge, lg_cmp_le, lg_cmp_gt, lg_cmp_lt, lg_cmp_eq, Bool.false_eq_true, Bool.true_eq_false, reduceCtorEq, false_iff, true_iff, iff_true, iff_false, and_true, true_and, and_false, false_and, reduceIte, ite_true, ite_false, eq_self] at *)) <;> omega) (fun s44 hs44 => ?_)
                    have Fs44 : Fm [90, 91, 92] [187] σ s44 := by rw [hs44]; exact Fm.sl Fs36 rfl
                    refine wa_iinc (v := (1)) (lv' := fun y45 => [(2, .int y45), (0, .ref 84)]) (by decide) rfl (by decide) (fun _ => rfl) (fun y45 hy45 => ?_)
                    have ty45 := i_addT hy45.symm
                    clear hy45
                    refine wa_goto o_X12_addLine_81 (by decide) ?_
                    refine wa_pick [1, 0] rfl ?_
                    exact ih37 _ (by ((try simp only [vp_in_iff, Int32.lt_iff_toInt_lt, Int32.le_iff_toInt_le, ← Int32.toInt_inj, Int32.reduceToInt, n_1, n_2, n_8, Int32.toNatClampNeg, Int64.lt_iff_toInt_lt, Int64.le_iff_toInt_le, ← Int64.toInt_inj, Int64.reduceToInt, Int32.toInt_toInt64, lg_cmp_ge, lg_cmp_le, lg_cmp_gt, lg_cmp_lt, lg_cmp_eq, Bool.false_eq_true, Bool.true_eq_false, reduceCtorEq, false_iff, true_iff, iff_true, iff_false, and_true, true_and, and_false, false_and, reduceIte, ite_true, ite_false, eq_self] at *)) <;> omega) _ _ ⟨Fs44, ((nx_gi_sl hs44).trans (khi38_0)), ((nxq_gl_sl hs44 (by decide)).trans (khi38_1)), (by ((try simp only [vp_in_iff, Int32.lt_iff_toInt_lt, Int32.le_iff_toInt_le, ← Int32.toInt_inj, Int32.reduceToInt, n_1, n_2, n_8, Int32.toNatClampNeg, Int64.lt_iff_toInt_lt, Int64.le_iff_toInt_le, ← Int64.toInt_inj, Int64.reduceToInt, Int32.toInt_toInt64, lg_cmp_ge, lg_cmp_le, lg_cmp_gt, lg_cmp_lt, lg_cmp_eq, Bool.false_eq_true, Bool.true_eq_false, reduceCtorEq, false_iff, true_iff, iff_true, iff_false, and_true, true_and, and_false, false_and, reduceIte, ite_true, ite_false, eq_self] at *)) <;> omega), trivial⟩ rfl
              exact hi38 _ _ _ ⟨Fs35, (nxe_gi_si hs35), ((nx_gl_si hs35).trans (khi31_1)), (by ((try simp only [vp_in_iff, Int32.lt_iff_toInt_lt, Int32.le_iff_toInt_le, ← Int32.toInt_inj, Int32.reduceToInt, n_1, n_2, n_8, Int32.toNatClampNeg, Int64.lt_iff_toInt_lt, Int64.le_iff_toInt_le, ← Int64.toInt_inj, Int64.reduceToInt, Int32.toInt_toInt64, lg_cmp_ge, lg_cmp_le, lg_cmp_gt, lg_cmp_lt, lg_cmp_eq, Bool.false_eq_true, Bool.true_eq_false, reduceCtorEq, false_iff, true_iff, iff_true, iff_false, and_true, true_and, and_false, false_and, reduceIte, ite_true, ite_false, eq_self] at *)) <;> omega), trivial⟩ rfl
            · replace h33 := bI_f (b := l1) (rfl) h33
              refine wa_iconst (v := 0) (by decide) ?_
              refine wa_zreturn false (rfl) rfl rfl ?_
              exact ⟨_, rfl, Fs29, trivial⟩
          · have mh32 := nle_mx h32
            refine wa_iload_n (i := 1) rfl rfl ?_
            refine wa_if_eq o_X12_addLine_55 (by decide) (fun h46 => ?_) (fun h46 => ?_)
            · replace h46 := bI_f (b := l1) (rfl) h46
              refine wa_iconst (v := 0) (by decide) ?_
              refine wa_istore_nD (lv' := [(1, .int (bI false)), (0, .ref 84), (2, .int l2)]) (i := 1) rfl (by decide) rfl ?_
              refine wa_iinc (v := (1)) (lv' := fun y47 => [(2, .int y47), (1, .int (bI false)), (0, .ref 84)]) (by decide) rfl (by decide) (fun _ => rfl) (fun y47 hy47 => ?_)
              have ty47 := i_addT hy47.symm
              clear hy47
              refine wa_goto o_X12_addLine_29 (by decide) ?_
              refine wa_pick [2, 1, 0] rfl ?_
              exact ih30 _ (by ((try simp only [vp_in_iff, Int32.lt_iff_toInt_lt, Int32.le_iff_toInt_le, ← Int32.toInt_inj, Int32.reduceToInt, n_1, n_2, n_8, Int32.toNatClampNeg, Int64.lt_iff_toInt_lt, Int64.le_iff_toInt_le, ← Int64.toInt_inj, Int64.reduceToInt, Int32.toInt_toInt64, lg_cmp_ge, lg_cmp_le, lg_cmp_gt, lg_cmp_lt, lg_cmp_eq, Bool.false_eq_true, Bool.true_eq_false, reduceCtorEq, false_iff, true_iff, iff_true, iff_false, and_true, true_and, and_false, false_and, reduceIte, ite_true, ite_false, eq_self] at *)) <;> omega) _ _ _ ⟨Fs29, (khi31_0), (khi31_1), (by ((try simp only [vp_in_iff, Int32.lt_iff_toInt_lt, Int32.le_iff_toInt_le, ← Int32.toInt_inj, Int32.reduceToInt, n_1, n_2, n_8, Int32.toNatClampNeg, Int64.lt_iff_toInt_lt, Int64.le_iff_toInt_le, ← Int64.toInt_inj, Int64.reduceToInt, Int32.toInt_toInt64, lg_cmp_ge, lg_cmp_le, lg_cmp_gt, lg_cmp_lt, lg_cmp_eq, Bool.false_eq_true, Bool.true_eq_false, reduceCtorEq, false_iff, true_iff, iff_true, iff_false, and_true, true_and, and_false, false_and, reduceIte, ite_true, ite_false, eq_self] at *)) <;> omega), trivial⟩ rfl
            · replace h46 := bI_t (b := l1) (rfl) h46
              refine wa_aload_n (i := 0) rfl rfl ?_
              refine wa_aload_n (i := 0) rfl rfl ?_
              refine wa_getr ck_12 fl_12_262 ly_84 rf_84_100 ?_
              refine wa_iload_n (i := 2) rfl rfl ?_
              refine wa_lald ly_147 (by ((try simp only [vp_in_iff, Int32.lt_iff_toInt_lt, Int32.le_iff_toInt_le, ← Int32.toInt_inj, Int32.reduceToInt, n_1, n_2, n_8, Int32.toNatClampNeg, Int64.lt_iff_toInt_lt, Int64.le_iff_toInt_le, ← Int64.toInt_inj, Int64.reduceToInt, Int32.toInt_toInt64, lg_cmp_ge, lg_cmp_le, lg_cmp_gt, lg_cmp_lt, lg_cmp_eq, Bool.false_eq_true, Bool.true_eq_false, reduceCtorEq, false_iff, true_iff, iff_true, iff_false, and_true, true_and, and_false, false_and, reduceIte, ite_true, ite_false, eq_self] at *)) <;> omega) ?_
              refine wa_Vi (d9 := d - 1) [.long _] [] (sp_X12_isProofSize G (d := d - 1) (by omega) s29 _) (rfl) rfl rfl (zr (by omega)) mk_X12_isProofSize ly_84 ml_12_1258 (Nat.le_of_ble_eq_true rfl) (fun x49 s48 hs48 => ?_)
              obtain ⟨bx49, ex49, zs48, -⟩ := pB hs48
              subst ex49
              subst zs48
              refine wa_if_eq o_X12_addLine_55 (by decide) (fun h50 => ?_) (fun h50 => ?_)
              · replace h50 := bI_f (b := bx49) (rfl) h50
                refine wa_iconst (v := 0) (by decide) ?_
                refine wa_istore_nD (lv' := [(1, .int (bI false)), (0, .ref 84), (2, .int l2)]) (i := 1) rfl (by decide) rfl ?_
                refine wa_iinc (v := (1)) (lv' := fun y51 => [(2, .int y51), (1, .int (bI false)), (0, .ref 84)]) (by decide) rfl (by decide) (fun _ => rfl) (fun y51 hy51 => ?_)
                have ty51 := i_addT hy51.symm
                clear hy51
                refine wa_goto o_X12_addLine_29 (by decide) ?_
                refine wa_pick [2, 1, 0] rfl ?_
                exact ih30 _ (by ((try simp only [vp_in_iff, Int32.lt_iff_toInt_lt, Int32.le_iff_toInt_le, ← Int32.toInt_inj, Int32.reduceToInt, n_1, n_2, n_8, Int32.toNatClampNeg, Int64.lt_iff_toInt_lt, Int64.le_iff_toInt_le, ← Int64.toInt_inj, Int64.reduceToInt, Int32.toInt_toInt64, lg_cmp_ge, lg_cmp_le, lg_cmp_gt, lg_cmp_lt, lg_cmp_eq, Bool.false_eq_true, Bool.true_eq_false, reduceCtorEq, false_iff, true_iff, iff_true, iff_false, and_true, true_and, and_false, false_and, reduceIte, ite_true, ite_false, eq_self] at *)) <;> omega) _ _ _ ⟨Fs29, (khi31_0), (khi31_1), (by ((try simp only [vp_in_iff, Int32.lt_iff_toInt_lt, Int32.le_iff_toInt_le, ← Int32.toInt_inj, Int32.reduceToInt, n_1, n_2, n_8, Int32.toNatClampNeg, Int64.lt_iff_toInt_lt, Int64.le_iff_toInt_le, ← Int64.toInt_inj, Int64.reduceToInt, Int32.toInt_toInt64, lg_cmp_ge, lg_cmp_le, lg_cmp_gt, lg_cmp_lt, lg_cmp_eq, Bool.false_eq_true, Bool.true_eq_false, reduceCtorEq, false_iff, true_iff, iff_true, iff_false, and_true, true_and, and_false, false_and, reduceIte, ite_true, ite_false, eq_self] at *)) <;> omega), trivial⟩ rfl
              · replace h50 := bI_t (b := bx49) (rfl) h50
                refine wa_iconst (v := 1) (by decide) ?_
                refine wa_goto o_X12_addLine_56 (by decide) ?_
                refine wa_istore_nD (lv' := [(1, .int (bI true)), (0, .ref 84), (2, .int l2)]) (i := 1) rfl (by decide) rfl ?_
                refine wa_iinc (v := (1)) (lv' := fun y52 => [(2, .int y52), (1, .int (bI true)), (0, .ref 84)]) (by decide) rfl (by decide) (fun _ => rfl) (fun y52 hy52 => ?_)
                have ty52 := i_addT hy52.symm
                clear hy52
                refine wa_goto o_X12_addLine_29 (by decide) ?_
                refine wa_pick [2, 1, 0] rfl ?_
                exact ih30 _ (by ((try simp only [vp_in_iff, Int32.lt_iff_toInt_lt, Int32.le_iff_toInt_le, ← Int32.toInt_inj, Int32.reduceToInt, n_1, n_2, n_8, Int32.toNatClampNeg, Int64.lt_iff_toInt_lt, Int64.le_iff_toInt_le, ← Int64.toInt_inj, Int64.reduceToInt, Int32.toInt_toInt64, lg_cmp_ge, lg_cmp_le, lg_cmp_gt, lg_cmp_lt, lg_cmp_eq, Bool.false_eq_true, Bool.true_eq_false, reduceCtorEq, false_iff, true_iff, iff_true, iff_false, and_true, true_and, and_false, false_and, reduceIte, ite_true, ite_false, eq_self] at *)) <;> omega) _ _ _ ⟨Fs29, (khi31_0), (khi31_1), (by ((try simp only [vp_in_iff, Int32.lt_iff_toInt_lt, Int32.le_iff_toInt_le, ← Int32.toInt_inj, Int32.reduceToInt, n_1, n_2, n_8, Int32.toNatClampNeg, Int64.lt_iff_toInt_lt, Int64.le_iff_toInt_le, ← Int64.toInt_inj, Int64.reduceToInt, Int32.toInt_toInt64, lg_cmp_ge, lg_cmp_le, lg_cmp_gt, lg_cmp_lt, lg_cmp_eq, Bool.false_eq_true, Bool.true_eq_false, reduceCtorEq, false_iff, true_iff, iff_true, iff_false, and_true, true_and, and_false, false_and, reduceIte, ite_true, ite_false, eq_self] at *)) <;> omega), trivial⟩ rfl
      exact hi31 _ _ _ _ ⟨(Fm.rf [90, 91, 92] [187] σ), (rfl), (rfl), (by ((try simp only [vp_in_iff, Int32.lt_iff_toInt_lt, Int32.le_iff_toInt_le, ← Int32.toInt_inj, Int32.reduceToInt, n_1, n_2, n_8, Int32.toNatClampNeg, Int64.lt_iff_toInt_lt, Int64.le_iff_toInt_le, ← Int64.toInt_inj, Int64.reduceToInt, Int32.toInt_toInt64, lg_cmp_ge, lg_cmp_le, lg_cmp_gt, lg_cmp_lt, lg_cmp_eq, Bool.false_eq_true, Bool.true_eq_false, reduceCtorEq, false_iff, true_iff, iff_true, iff_false, and_true, true_and, and_false, false_and, reduceIte, ite_true, ite_false, eq_self] at *)) <;> omega), trivial⟩ rfl
    · replace h28 := bI_t (b := bx27) (rfl) h28
      refine wa_iconst (v := 1) (by decide) ?_
      refine wa_goto o_X12_addLine_26 (by decide) ?_
      refine wa_istore_nD (lv' := [(1, .int (bI true)), (0, .ref 84)]) (i := 1) rfl (by decide) rfl ?_
      refine wa_iconst (v := 0) (by decide) ?_
      refine wa_istore_nD (lv' := [(2, .int 0), (1, .int (bI true)), (0, .ref 84)]) (i := 2) rfl (by decide) rfl ?_
      refine wa_pick [2, 1, 0] rfl ?_
      have hi55 : ∀ (n9_29 : Nat) (l1 : Bool) (l2 : Int32) (s53 : St), ((Fm [90, 91, 92] [187] σ s53) ∧ (gi s53 84 187 = gi σ 84 187) ∧ (gl s53 84 101 = gl σ 84 101) ∧ (0 ≤ l2.toInt) ∧ (True)) → (2147483647 - l2.toInt).toNat = n9_29 → WA G M_X12_addLine (ZM G M_X12_addLine d (fun r σ' => ∃ x : Bool, r = some (.int (bI x)) ∧ Fm [90, 91, 92] [187] σ σ' ∧ True)) B_X12_addLine_29 [(0, .ref 84), (1, .int (bI l1)), (2, .int l2)] [] s53 := by
        intro n9_29
        induction n9_29 using Nat.strongRecOn with
        | _ n9_29 ih54 =>
          intro l1 l2 s53 i9 m9_29
          obtain ⟨Fs53, khi55_0, khi55_1, jhi55_0, -⟩ := i9
          have ul2 := Int32.toInt_lt l2
          have wl2 := Int32.le_toInt l2
          refine wa_iload_n (i := 2) rfl rfl ?_
          refine wa_iconst (v := 4) (by decide) ?_
          refine wa_icmp_ge o_X12_addLine_63 (by decide) (fun h56 => ?_) (fun h56 => ?_)
          · refine wa_iload_n (i := 1) rfl rfl ?_
            refine wa_if_ne o_X12_addLine_69 (by decide) (fun h57 => ?_) (fun h57 => ?_)
            · replace h57 := bI_t (b := l1) (rfl) h57
              refine wa_aload_n (i := 0) rfl rfl ?_
              refine wa_dup rfl ?_
              refine wa_geti ck_12 fl_12_1247 ly_84 ?_
              refine wa_rw (khi55_0) ?_
              refine wa_iconst (v := 1) (by decide) ?_
              refine wa_iadd ?_
              refine wa_top (fun v58 hv58 => ?_)
              have tv58 := i_addT hv58
              clear hv58
              refine wa_puti ck_12 fl_12_1247 ly_84 (fun s59 hs59 => ?_)
              have Fs59 : Fm [90, 91, 92] [187] σ s59 := by rw [hs59]; exact Fm.si Fs53 rfl
              refine wa_iconst (v := 0) (by decide) ?_
              refine wa_istore_nD (lv' := [(2, .int 0), (0, .ref 84), (1, .int (bI l1))]) (i := 2) rfl (by decide) rfl ?_
              refine wa_pick [1, 0] rfl ?_
              have hi62 : ∀ (n9_81 : Nat) (l2 : Int32) (s60 : St), ((Fm [90, 91, 92] [187] σ s60) ∧ (gi s60 84 187 = v58) ∧ (gl s60 84 101 = gl σ 84 101) ∧ (0 ≤ l2.toInt) ∧ (True)) → (2147483647 - l2.toInt).toNat = n9_81 → WA G M_X12_addLine (ZM G M_X12_addLine d (fun r σ' => ∃ x : Bool, r = some (.int (bI x)) ∧ Fm [90, 91, 92] [187] σ σ' ∧ True)) B_X12_addLine_81 [(0, .ref 84), (2, .int l2)] [] s60 := by
                intro n9_81
                induction n9_81 using Nat.strongRecOn with
                | _ n9_81 ih61 =>
                  intro l2 s60 i9 m9_81
                  obtain ⟨Fs60, khi62_0, khi62_1, jhi62_0, -⟩ := i9
                  have ul2 := Int32.toInt_lt l2
                  have wl2 := Int32.le_toInt l2
                  refine wa_iload_n (i := 2) rfl rfl ?_
                  refine wa_iconst (v := 4) (by decide) ?_
                  refine wa_icmp_ge o_X12_addLine_111 (by decide) (fun h63 => ?_) (fun h63 => ?_)
                  · refine wa_aload_n (i := 0) rfl rfl ?_
                    refine wa_getr ck_12 fl_12_438 ly_84 rf_84_185 ?_
                    refine wa_aload_n (i := 0) rfl rfl ?_
                    refine wa_geti ck_12 fl_12_1247 ly_84 ?_
                    refine wa_rw (khi62_0) ?_
                    refine wa_aload_n (i := 0) rfl rfl ?_
                    refine wa_getl ck_12 fl_12_736 ly_84 ?_
                    refine wa_rwl (khi62_1) ?_
                    refine wa_last ly_91 (by ((try simp only [vp_in_iff, Int32.lt_iff_toInt_lt, Int32.le_iff_toInt_le, ← Int32.toInt_inj, Int32.reduceToInt, n_1, n_2, n_8, Int32.toNatClampNeg, Int64.lt_iff_toInt_lt, Int64.le_iff_toInt_le, ← Int64.toInt_inj, Int64.reduceToInt, Int32.toInt_toInt64, lg_cmp_ge, lg_cmp_le, lg_cmp_gt, lg_cmp_lt, lg_cmp_eq, Bool.false_eq_true, Bool.true_eq_false, reduceCtorEq, false_iff, true_iff, iff_true, iff_false, and_true, true_and, and_false, false_and, reduceIte, ite_true, ite_false, eq_self] at *)) <;> omega) (fun s64 hs64 => ?_)
                    have Fs64 : Fm [90, 91, 92] [187] σ s64 := by rw [hs64]; exact Fm.sl Fs60 rfl
                    refine wa_aload_n (i := 0) rfl rfl ?_
                    refine wa_getr ck_12 fl_12_441 ly_84 rf_84_186 ?_
                    refine wa_aload_n (i := 0) rfl rfl ?_
                    refine wa_geti ck_12 fl_12_1247 ly_84 ?_
                    refine wa_rw ((nx_gi_sl hs64).trans (khi62_0)) ?_
                    refine wa_iconst (v := 1) (by decide) ?_
                    refine wa_zast true (rfl) ly_90 (by ((try simp only [vp_in_iff, Int32.lt_iff_toInt_lt, Int32.le_iff_toInt_le, ← Int32.toInt_inj, Int32.reduceToInt, n_1, n_2, n_8, Int32.toNatClampNeg, Int64.lt_iff_toInt_lt, Int64.le_iff_toInt_le, ← Int64.toInt_inj, Int64.reduceToInt, Int32.toInt_toInt64, lg_cmp_ge, lg_cmp_le, lg_cmp_gt, lg_cmp_lt, lg_cmp_eq, Bool.false_eq_true, Bool.true_eq_false, reduceCtorEq, false_iff, true_iff, iff_true, iff_false, and_true, true_and, and_false, false_and, reduceIte, ite_true, ite_false, eq_self] at *)) <;> omega) (fun s65 hs65 => ?_)
                    have Fs65 : Fm [90, 91, 92] [187] σ s65 := by rw [hs65]; exact Fm.sb Fs64 rfl
                    refine wa_iconst (v := 1) (by decide) ?_
                    refine wa_zreturn true (rfl) rfl rfl ?_
                    exact ⟨_, rfl, Fs65, trivial⟩
                  · have mh63 := nle_mx h63
                    refine wa_aload_n (i := 0) rfl rfl ?_
                    refine wa_getr ck_12 fl_12_435 ly_84 rf_84_184 ?_
                    refine wa_iconst (v := 4) (by decide) ?_
                    refine wa_aload_n (i := 0) rfl rfl ?_
                    refine wa_geti ck_12 fl_12_1247 ly_84 ?_
                    refine wa_rw (khi62_0) ?_
                    refine wa_imul ?_
                    refine wa_top (fun v66 hv66 => ?_)
                    have tv66 := i_mulT hv66
                    clear hv66
                    refine wa_iload_n (i := 2) rfl rfl ?_
                    refine wa_iadd ?_
                    refine wa_top (fun v67 hv67 => ?_)
                    have tv67 := i_addT hv67
                    clear hv67
                    refine wa_aload_n (i := 0) rfl rfl ?_
                    refine wa_getr ck_12 fl_12_262 ly_84 rf_84_100 ?_
                    refine wa_iload_n (i := 2) rfl rfl ?_
                    refine wa_lald ly_147 (by ((try simp only [vp_in_iff, Int32.lt_iff_toInt_lt, Int32.le_iff_toInt_le, ← Int32.toInt_inj, Int32.reduceToInt, n_1, n_2, n_8, Int32.toNatClampNeg, Int64.lt_iff_toInt_lt, Int64.le_iff_toInt_le, ← Int64.toInt_inj, Int64.reduceToInt, Int32.toInt_toInt64, lg_cmp_ge, lg_cmp_le, lg_cmp_gt, lg_cmp_lt, lg_cmp_eq, Bool.false_eq_true, Bool.true_eq_false, reduceCtorEq, false_iff, true_iff, iff_true, iff_false, and_true, true_and, and_false, false_and, reduceIte, ite_true, ite_false, eq_self] at *)) <;> omega) ?_
                    refine wa_last ly_92 (by ((try simp only [vp_in_iff, Int32.lt_iff_toInt_lt, Int32.le_iff_toInt_le, ← Int32.toInt_inj, Int32.reduceToInt, n_1, n_2, n_8, Int32.toNatClampNeg, Int64.lt_iff_toInt_lt, Int64.le_iff_toInt_le, ← Int64.toInt_inj, Int64.reduceToInt, Int32.toInt_toInt64, lg_cmp_ge, lg_cmp_le, lg_cmp_gt, lg_cmp_lt, lg_cmp_eq, Bool.false_eq_true, Bool.true_eq_false, reduceCtorEq, false_iff, true_iff, iff_true, iff_false, and_true, true_and, and_false, false_and, reduceIte, ite_true, ite_false, eq_self] at *)) <;> omega) (fun s68 hs68 => ?_)
                    have Fs68 : Fm [90, 91, 92] [187] σ s68 := by rw [hs68]; exact Fm.sl Fs60 rfl
                    refine wa_iinc (v := (1)) (lv' := fun y69 => [(2, .int y69), (0, .ref 84)]) (by decide) rfl (by decide) (fun _ => rfl) (fun y69 hy69 => ?_)
                    have ty69 := i_addT hy69.symm
                    clear hy69
                    refine wa_goto o_X12_addLine_81 (by decide) ?_
                    refine wa_pick [1, 0] rfl ?_
                    exact ih61 _ (by ((try simp only [vp_in_iff, Int32.lt_iff_toInt_lt, Int32.le_iff_toInt_le, ← Int32.toInt_inj, Int32.reduceToInt, n_1, n_2, n_8, Int32.toNatClampNeg, Int64.lt_iff_toInt_lt, Int64.le_iff_toInt_le, ← Int64.toInt_inj, Int64.reduceToInt, Int32.toInt_toInt64, lg_cmp_ge, lg_cmp_le, lg_cmp_gt, lg_cmp_lt, lg_cmp_eq, Bool.false_eq_true, Bool.true_eq_false, reduceCtorEq, false_iff, true_iff, iff_true, iff_false, and_true, true_and, and_false, false_and, reduceIte, ite_true, ite_false, eq_self] at *)) <;> omega) _ _ ⟨Fs68, ((nx_gi_sl hs68).trans (khi62_0)), ((nxq_gl_sl hs68 (by decide)).trans (khi62_1)), (by ((try simp only [vp_in_iff, Int32.lt_iff_toInt_lt, Int32.le_iff_toInt_le, ← Int32.toInt_inj, Int32.reduceToInt, n_1, n_2, n_8, Int32.toNatClampNeg, Int64.lt_iff_toInt_lt, Int64.le_iff_toInt_le, ← Int64.toInt_inj, Int64.reduceToInt, Int32.toInt_toInt64, lg_cmp_ge, lg_cmp_le, lg_cmp_gt, lg_cmp_lt, lg_cmp_eq, Bool.false_eq_true, Bool.true_eq_false, reduceCtorEq, false_iff, true_iff, iff_true, iff_false, and_true, true_and, and_false, false_and, reduceIte, ite_true, ite_false, eq_self] at *)) <;> omega), trivial⟩ rfl
              exact hi62 _ _ _ ⟨Fs59, (nxe_gi_si hs59), ((nx_gl_si hs59).trans (khi55_1)), (by ((try simp only [vp_in_iff, Int32.lt_iff_toInt_lt, Int32.le_iff_toInt_le, ← Int32.toInt_inj, Int32.reduceToInt, n_1, n_2, n_8, Int32.toNatClampNeg, Int64.lt_iff_toInt_lt, Int64.le_iff_toInt_le, ← Int64.toInt_inj, Int64.reduceToInt, Int32.toInt_toInt64, lg_cmp_ge, lg_cmp_le, lg_cmp_gt, lg_cmp_lt, lg_cmp_eq, Bool.false_eq_true, Bool.true_eq_false, reduceCtorEq, false_iff, true_iff, iff_true, iff_false, and_true, true_and, and_false, false_and, reduceIte, ite_true, ite_false, eq_self] at *)) <;> omega), trivial⟩ rfl
            · replace h57 := bI_f (b := l1) (rfl) h57
              refine wa_iconst (v := 0) (by decide) ?_
              refine wa_zreturn false (rfl) rfl rfl ?_
              exact ⟨_, rfl, Fs53, trivial⟩
          · have mh56 := nle_mx h56
            refine wa_iload_n (i := 1) rfl rfl ?_
            refine wa_if_eq o_X12_addLine_55 (by decide) (fun h70 => ?_) (fun h70 => ?_)
            · replace h70 := bI_f (b := l1) (rfl) h70
              refine wa_iconst (v := 0) (by decide) ?_
              refine wa_istore_nD (lv' := [(1, .int (bI false)), (0, .ref 84), (2, .int l2)]) (i := 1) rfl (by decide) rfl ?_
              refine wa_iinc (v := (1)) (lv' := fun y71 => [(2, .int y71), (1, .int (bI false)), (0, .ref 84)]) (by decide) rfl (by decide) (fun _ => rfl) (fun y71 hy71 => ?_)
              have ty71 := i_addT hy71.symm
              clear hy71
              refine wa_goto o_X12_addLine_29 (by decide) ?_
              refine wa_pick [2, 1, 0] rfl ?_
              exact ih54 _ (by ((try simp only [vp_in_iff, Int32.lt_iff_toInt_lt, Int32.le_iff_toInt_le, ← Int32.toInt_inj, Int32.reduceToInt, n_1, n_2, n_8, Int32.toNatClampNeg, Int64.lt_iff_toInt_lt, Int64.le_iff_toInt_le, ← Int64.toInt_inj, Int64.reduceToInt, Int32.toInt_toInt64, lg_cmp_ge, lg_cmp_le, lg_cmp_gt, lg_cmp_lt, lg_cmp_eq, Bool.false_eq_true, Bool.true_eq_false, reduceCtorEq, false_iff, true_iff, iff_true, iff_false, and_true, true_and, and_false, false_and, reduceIte, ite_true, ite_false, eq_self] at *)) <;> omega) _ _ _ ⟨Fs53, (khi55_0), (khi55_1), (by ((try simp only [vp_in_iff, Int32.lt_iff_toInt_lt, Int32.le_iff_toInt_le, ← Int32.toInt_inj, Int32.reduceToInt, n_1, n_2, n_8, Int32.toNatClampNeg, Int64.lt_iff_toInt_lt, Int64.le_iff_toInt_le, ← Int64.toInt_inj, Int64.reduceToInt, Int32.toInt_toInt64, lg_cmp_ge, lg_cmp_le, lg_cmp_gt, lg_cmp_lt, lg_cmp_eq, Bool.false_eq_true, Bool.true_eq_false, reduceCtorEq, false_iff, true_iff, iff_true, iff_false, and_true, true_and, and_false, false_and, reduceIte, ite_true, ite_false, eq_self] at *)) <;> omega), trivial⟩ rfl
            · replace h70 := bI_t (b := l1) (rfl) h70
              refine wa_aload_n (i := 0) rfl rfl ?_
              refine wa_aload_n (i := 0) rfl rfl ?_
              refine wa_getr ck_12 fl_12_262 ly_84 rf_84_100 ?_
              refine wa_iload_n (i := 2) rfl rfl ?_
              refine wa_lald ly_147 (by ((try simp only [vp_in_iff, Int32.lt_iff_toInt_lt, Int32.le_iff_toInt_le, ← Int32.toInt_inj, Int32.reduceToInt, n_1, n_2, n_8, Int32.toNatClampNeg, Int64.lt_iff_toInt_lt, Int64.le_iff_toInt_le, ← Int64.toInt_inj, Int64.reduceToInt, Int32.toInt_toInt64, lg_cmp_ge, lg_cmp_le, lg_cmp_gt, lg_cmp_lt, lg_cmp_eq, Bool.false_eq_true, Bool.true_eq_false, reduceCtorEq, false_iff, true_iff, iff_true, iff_false, and_true, true_and, and_false, false_and, reduceIte, ite_true, ite_false, eq_self] at *)) <;> omega) ?_
              refine wa_Vi (d9 := d - 1) [.long _] [] (sp_X12_isProofSize G (d := d - 1) (by omega) s53 _) (rfl) rfl rfl (zr (by omega)) mk_X12_isProofSize ly_84 ml_12_1258 (Nat.le_of_ble_eq_true rfl) (fun x73 s72 hs72 => ?_)
              obtain ⟨bx73, ex73, zs72, -⟩ := pB hs72
              subst ex73
              subst zs72
              refine wa_if_eq o_X12_addLine_55 (by decide) (fun h74 => ?_) (fun h74 => ?_)
              · replace h74 := bI_f (b := bx73) (rfl) h74
                refine wa_iconst (v := 0) (by decide) ?_
                refine wa_istore_nD (lv' := [(1, .int (bI false)), (0, .ref 84), (2, .int l2)]) (i := 1) rfl (by decide) rfl ?_
                refine wa_iinc (v := (1)) (lv' := fun y75 => [(2, .int y75), (1, .int (bI false)), (0, .ref 84)]) (by decide) rfl (by decide) (fun _ => rfl) (fun y75 hy75 => ?_)
                have ty75 := i_addT hy75.symm
                clear hy75
                refine wa_goto o_X12_addLine_29 (by decide) ?_
                refine wa_pick [2, 1, 0] rfl ?_
                exact ih54 _ (by ((try simp only [vp_in_iff, Int32.lt_iff_toInt_lt, Int32.le_iff_toInt_le, ← Int32.toInt_inj, Int32.reduceToInt, n_1, n_2, n_8, Int32.toNatClampNeg, Int64.lt_iff_toInt_lt, Int64.le_iff_toInt_le, ← Int64.toInt_inj, Int64.reduceToInt, Int32.toInt_toInt64, lg_cmp_ge, lg_cmp_le, lg_cmp_gt, lg_cmp_lt, lg_cmp_eq, Bool.false_eq_true, Bool.true_eq_false, reduceCtorEq, false_iff, true_iff, iff_true, iff_false, and_true, true_and, and_false, false_and, reduceIte, ite_true, ite_false, eq_self] at *)) <;> omega) _ _ _ ⟨Fs53, (khi55_0), (khi55_1), (by ((try simp only [vp_in_iff, Int32.lt_iff_toInt_lt, Int32.le_iff_toInt_le, ← Int32.toInt_inj, Int32.reduceToInt, n_1, n_2, n_8, Int32.toNatClampNeg, Int64.lt_iff_toInt_lt, Int64.le_iff_toInt_le, ← Int64.toInt_inj, Int64.reduceToInt, Int32.toInt_toInt64, lg_cmp_ge, lg_cmp_le, lg_cmp_gt, lg_cmp_lt, lg_cmp_eq, Bool.false_eq_true, Bool.true_eq_false, reduceCtorEq, false_iff, true_iff, iff_true, iff_false, and_true, true_and, and_false, false_and, reduceIte, ite_true, ite_false, eq_self] at *)) <;> omega), trivial⟩ rfl
              · replace h74 := bI_t (b := bx73) (rfl) h74
                refine wa_iconst (v := 1) (by decide) ?_
                refine wa_goto o_X12_addLine_56 (by decide) ?_
                refine wa_istore_nD (lv' := [(1, .int (bI true)), (0, .ref 84), (2, .int l2)]) (i := 1) rfl (by decide) rfl ?_
                refine wa_iinc (v := (1)) (lv' := fun y76 => [(2, .int y76), (1, .int (bI true)), (0, .ref 84)]) (by decide) rfl (by decide) (fun _ => rfl) (fun y76 hy76 => ?_)
                have ty76 := i_addT hy76.symm
                clear hy76
                refine wa_goto o_X12_addLine_29 (by decide) ?_
                refine wa_pick [2, 1, 0] rfl ?_
                exact ih54 _ (by ((try simp only [vp_in_iff, Int32.lt_iff_toInt_lt, Int32.le_iff_toInt_le, ← Int32.toInt_inj, Int32.reduceToInt, n_1, n_2, n_8, Int32.toNatClampNeg, Int64.lt_iff_toInt_lt, Int64.le_iff_toInt_le, ← Int64.toInt_inj, Int64.reduceToInt, Int32.toInt_toInt64, lg_cmp_ge, lg_cmp_le, lg_cmp_gt, lg_cmp_lt, lg_cmp_eq, Bool.false_eq_true, Bool.true_eq_false, reduceCtorEq, false_iff, true_iff, iff_true, iff_false, and_true, true_and, and_false, false_and, reduceIte, ite_true, ite_false, eq_self] at *)) <;> omega) _ _ _ ⟨Fs53, (khi55_0), (khi55_1), (by ((try simp only [vp_in_iff, Int32.lt_iff_toInt_lt, Int32.le_iff_toInt_le, ← Int32.toInt_inj, Int32.reduceToInt, n_1, n_2, n_8, Int32.toNatClampNeg, Int64.lt_iff_toInt_lt, Int64.le_iff_toInt_le, ← Int64.toInt_inj, Int64.reduceToInt, Int32.toInt_toInt64, lg_cmp_ge, lg_cmp_le, lg_cmp_gt, lg_cmp_lt, lg_cmp_eq, Bool.false_eq_true, Bool.true_eq_false, reduceCtorEq, false_iff, true_iff, iff_true, iff_false, and_true, true_and, and_false, false_and, reduceIte, ite_true, ite_false, eq_self] at *)) <;> omega), trivial⟩ rfl
      exact hi55 _ _ _ _ ⟨(Fm.rf [90, 91, 92] [187] σ), (rfl), (rfl), (by ((try simp only [vp_in_iff, Int32.lt_iff_toInt_lt, Int32.le_iff_toInt_le, ← Int32.toInt_inj, Int32.reduceToInt, n_1, n_2, n_8, Int32.toNatClampNeg, Int64.lt_iff_toInt_lt, Int64.le_iff_toInt_le, ← Int64.toInt_inj, Int64.reduceToInt, Int32.toInt_toInt64, lg_cmp_ge, lg_cmp_le, lg_cmp_gt, lg_cmp_lt, lg_cmp_eq, Bool.false_eq_true, Bool.true_eq_false, reduceCtorEq, false_iff, true_iff, iff_true, iff_false, and_true, true_and, and_false, false_and, reduceIte, ite_true, ite_false, eq_self] at *)) <;> omega), trivial⟩ rfl
set_option maxHeartbeats 4000000 in
theorem sp_X12_takesAtom (G : kG9) {d : Nat} (hd : 2 ≤ d) (σ : St) (a0 : Int32) (a1 : Int32) (A_156 : AR ap_156 σ 156) (A_158 : AR ap_158 σ 158) (A_159 : AR ap_159 σ 159) (A_202 : AR ap_202 σ 202) : Ct G M_X12_takesAtom d [.ref 84, .int a0, .int a1] σ (fun r σ' => ∃ x : Bool, r = some (.int (bI x)) ∧ Fm [90, 91, 92, 147] [101, 187] σ σ' ∧ True) := by
  refine wa_start (by decide) rfl (Nat.le_of_ble_eq_true rfl) (lv := [(0, .ref 84), (1, .int a0), (2, .int a1)]) rfl o_X12_takesAtom_0 rfl ?_
  have ua0 := Int32.toInt_lt a0
  have wa0 := Int32.le_toInt a0
  have ua1 := Int32.toInt_lt a1
  have wa1 := Int32.le_toInt a1
  refine wa_aload_n (i := 0) rfl rfl ?_
  refine wa_iload_n (i := 1) rfl rfl ?_
  refine wa_Vi (d9 := d - 1) [.int _] [] (sp_X12_claimAt G (d := d - 1) (by omega) σ _ A_202) (rfl) rfl rfl (zr (by omega)) mk_X12_claimAt ly_84 ml_12_682 (Nat.le_of_ble_eq_true rfl) (fun x2 s1 hs1 => ?_)
  obtain ⟨zs1, -⟩ := pI hs1
  subst zs1
  refine wa_istore_nD (lv' := [(3, .int x2), (0, .ref 84), (1, .int a0), (2, .int a1)]) (i := 3) rfl (by decide) rfl ?_
  refine wa_iload_n (i := 3) rfl rfl ?_
  refine wa_iconst (v := (-1)) (by decide) ?_
  refine wa_icmp_eq o_X12_takesAtom_45 (by decide) (fun h3 => ?_) (fun h3 => ?_)
  · refine wa_iconst (v := 0) (by decide) ?_
    refine wa_zreturn false (rfl) rfl rfl ?_
    exact ⟨_, rfl, (Fm.rf [90, 91, 92, 147] [101, 187] σ), trivial⟩
  · refine wa_aload_n (i := 0) rfl rfl ?_
    refine wa_getr ck_12 fl_12_265 ly_84 rf_84_103 ?_
    refine wa_iload_n (i := 3) rfl rfl ?_
    refine wa_zald ly_146 (by ((try simp only [vp_in_iff, Int32.lt_iff_toInt_lt, Int32.le_iff_toInt_le, ← Int32.toInt_inj, Int32.reduceToInt, n_1, n_2, n_8, Int32.toNatClampNeg, Int64.lt_iff_toInt_lt, Int64.le_iff_toInt_le, ← Int64.toInt_inj, Int64.reduceToInt, Int32.toInt_toInt64, lg_cmp_ge, lg_cmp_le, lg_cmp_gt, lg_cmp_lt, lg_cmp_eq, Bool.false_eq_true, Bool.true_eq_false, reduceCtorEq, false_iff, true_iff, iff_true, iff_false, and_true, true_and, and_false, false_and, reduceIte, ite_true, ite_false, eq_self] at *)) <;> omega) ?_
    refine wa_if_eq o_X12_takesAtom_45 (by decide) (fun h4 => ?_) (fun h4 => ?_)
    · replace h4 := bI_f (b := (gb σ 146 (x2).toNatClampNeg)) (rfl) h4
      refine wa_iconst (v := 0) (by decide) ?_
      refine wa_zreturn false (rfl) rfl rfl ?_
      exact ⟨_, rfl, (Fm.rf [90, 91, 92, 147] [101, 187] σ), trivial⟩
    · replace h4 := bI_t (b := (gb σ 146 (x2).toNatClampNeg)) (rfl) h4
      refine wa_aload_n (i := 0) rfl rfl ?_
      refine wa_getr ck_12 fl_12_244 ly_84 rf_84_92 ?_
      refine wa_iload_n (i := 3) rfl rfl ?_
      refine wa_zald ly_153 (by ((try simp only [vp_in_iff, Int32.lt_iff_toInt_lt, Int32.le_iff_toInt_le, ← Int32.toInt_inj, Int32.reduceToInt, n_1, n_2, n_8, Int32.toNatClampNeg, Int64.lt_iff_toInt_lt, Int64.le_iff_toInt_le, ← Int64.toInt_inj, Int64.reduceToInt, Int32.toInt_toInt64, lg_cmp_ge, lg_cmp_le, lg_cmp_gt, lg_cmp_lt, lg_cmp_eq, Bool.false_eq_true, Bool.true_eq_false, reduceCtorEq, false_iff, true_iff, iff_true, iff_false, and_true, true_and, and_false, false_and, reduceIte, ite_true, ite_false, eq_self] at *)) <;> omega) ?_
      refine wa_if_eq o_X12_takesAtom_45 (by decide) (fun h5 => ?_) (fun h5 => ?_)
      · replace h5 := bI_f (b := (gb σ 153 (x2).toNatClampNeg)) (rfl) h5
        refine wa_iconst (v := 0) (by decide) ?_
        refine wa_zreturn false (rfl) rfl rfl ?_
        exact ⟨_, rfl, (Fm.rf [90, 91, 92, 147] [101, 187] σ), trivial⟩
      · replace h5 := bI_t (b := (gb σ 153 (x2).toNatClampNeg)) (rfl) h5
        refine wa_iload_n (i := 2) rfl rfl ?_
        refine wa_i2l ?_
        refine wa_lconst (v := 1) (by decide) ?_
        refine wa_aload_n (i := 0) rfl rfl ?_
        refine wa_getr ck_12 fl_12_235 ly_84 rf_84_89 ?_
        refine wa_iload_n (i := 3) rfl rfl ?_
        refine wa_iald ly_156 (by ((try simp only [vp_in_iff, Int32.lt_iff_toInt_lt, Int32.le_iff_toInt_le, ← Int32.toInt_inj, Int32.reduceToInt, n_1, n_2, n_8, Int32.toNatClampNeg, Int64.lt_iff_toInt_lt, Int64.le_iff_toInt_le, ← Int64.toInt_inj, Int64.reduceToInt, Int32.toInt_toInt64, lg_cmp_ge, lg_cmp_le, lg_cmp_gt, lg_cmp_lt, lg_cmp_eq, Bool.false_eq_true, Bool.true_eq_false, reduceCtorEq, false_iff, true_iff, iff_true, iff_false, and_true, true_and, and_false, false_and, reduceIte, ite_true, ite_false, eq_self] at *)) <;> omega) ?_
        refine wa_top (fun v6 hv6 => ?_)
        have rv6 : 0 ≤ v6.toInt ∧ v6.toInt ≤ 24 := by rw [← hv6]; exact ar_at A_156 _
        clear hv6
        refine wa_i2l ?_
        refine wa_Si (d9 := d - 1) [.long _, .long _, .long _] [] (sp_X12_in G (d := d - 1) (by omega) σ _ _ _) (rfl) rfl rfl (zr (by omega)) mk_X12_in ml_12_504 (Nat.le_of_ble_eq_true rfl) (fun x8 s7 hs7 => ?_)
        obtain ⟨bx8, ex8, zs7, cx8_1, -⟩ := pB hs7
        subst ex8
        subst zs7
        refine wa_if_ne o_X12_takesAtom_47 (by decide) (fun h9 => ?_) (fun h9 => ?_)
        · replace h9 := bI_t (b := bx8) (rfl) h9
          have uh9_0 := iff_t cx8_1 h9
          refine wa_bipush (v := 24) (by decide) ?_
          refine wa_iload_n (i := 3) rfl rfl ?_
          refine wa_imul ?_
          refine wa_top (fun v10 hv10 => ?_)
          have tv10 := i_mulT hv10
          clear hv10
          refine wa_iload_n (i := 2) rfl rfl ?_
          refine wa_iadd ?_
          refine wa_top (fun v11 hv11 => ?_)
          have tv11 := i_addT hv11
          clear hv11
          refine wa_iconst (v := 1) (by decide) ?_
          refine wa_isub ?_
          refine wa_top (fun v12 hv12 => ?_)
          have tv12 := i_subT hv12
          clear hv12
          refine wa_istoreD (lv' := [(4, .int v12), (3, .int x2), (0, .ref 84), (1, .int a0), (2, .int a1)]) (by decide) rfl ?_
          refine wa_iconst (v := 0) (by decide) ?_
          refine wa_istoreD (lv' := [(5, .int 0), (4, .int v12), (3, .int x2), (0, .ref 84), (1, .int a0), (2, .int a1)]) (by decide) rfl ?_
          refine wa_pick [3, 1, 0] rfl ?_
          have hi15 : ∀ (n9_60 : Nat) (l5 : Int32) (s13 : St), ((Fm [90, 91, 92, 147] [101, 187] σ s13) ∧ (0 ≤ l5.toInt) ∧ (True)) → (2147483647 - l5.toInt).toNat = n9_60 → WA G M_X12_takesAtom (ZM G M_X12_takesAtom d (fun r σ' => ∃ x : Bool, r = some (.int (bI x)) ∧ Fm [90, 91, 92, 147] [101, 187] σ σ' ∧ True)) B_X12_takesAtom_60 [(0, .ref 84), (4, .int v12), (5, .int l5)] [] s13 := by
            intro n9_60
            induction n9_60 using Nat.strongRecOn with
            | _ n9_60 ih14 =>
              intro l5 s13 i9 m9_60
              obtain ⟨Fs13, jhi15_0, -⟩ := i9
              have ul5 := Int32.toInt_lt l5
              have wl5 := Int32.le_toInt l5
              refine wa_iload rfl ?_
              refine wa_iconst (v := 4) (by decide) ?_
              refine wa_icmp_ge o_X12_takesAtom_92 (by decide) (fun h16 => ?_) (fun h16 => ?_)
              · refine wa_aload_n (i := 0) rfl rfl ?_
                refine wa_aload_n (i := 0) rfl rfl ?_
                refine wa_getr ck_12 fl_12_229 ly_84 rf_84_87 ?_
                refine wa_iload rfl ?_
                refine wa_iald ly_158 (by ((try simp only [vp_in_iff, Int32.lt_iff_toInt_lt, Int32.le_iff_toInt_le, ← Int32.toInt_inj, Int32.reduceToInt, n_1, n_2, n_8, Int32.toNatClampNeg, Int64.lt_iff_toInt_lt, Int64.le_iff_toInt_le, ← Int64.toInt_inj, Int64.reduceToInt, Int32.toInt_toInt64, lg_cmp_ge, lg_cmp_le, lg_cmp_gt, lg_cmp_lt, lg_cmp_eq, Bool.false_eq_true, Bool.true_eq_false, reduceCtorEq, false_iff, true_iff, iff_true, iff_false, and_true, true_and, and_false, false_and, reduceIte, ite_true, ite_false, eq_self] at *)) <;> omega) ?_
                refine wa_top (fun v17 hv17 => ?_)
                have rv17 : -99999 ≤ v17.toInt ∧ v17.toInt ≤ 99999 := by rw [← hv17]; exact ar_at (ar_fm Fs13 rfl rfl A_158) _
                clear hv17
                refine wa_i2l ?_
                refine wa_putl ck_12 fl_12_736 ly_84 (fun s18 hs18 => ?_)
                have Fs18 : Fm [90, 91, 92, 147] [101, 187] σ s18 := by rw [hs18]; exact Fm.sl Fs13 rfl
                refine wa_aload_n (i := 0) rfl rfl ?_
                refine wa_Vi (d9 := d - 1) [] [] (sp_X12_addLine G (d := d - 1) (by omega) s18 ) (rfl) rfl rfl (zr (by omega)) mk_X12_addLine ly_84 ml_12_1261 (Nat.le_of_ble_eq_true rfl) (fun x20 s19 hs19 => ?_)
                obtain ⟨bx20, ex20, fs19, -⟩ := pB hs19
                subst ex20
                have Fs19 : Fm [90, 91, 92, 147] [101, 187] σ s19 := Fm.tr Fs18 (Fm.wd fs19 rfl rfl)
                refine wa_zreturn bx20 (rfl) rfl rfl ?_
                exact ⟨_, rfl, Fs19, trivial⟩
              · have mh16 := nle_mx h16
                refine wa_aload_n (i := 0) rfl rfl ?_
                refine wa_getr ck_12 fl_12_262 ly_84 rf_84_100 ?_
                refine wa_iload rfl ?_
                refine wa_aload_n (i := 0) rfl rfl ?_
                refine wa_getr ck_12 fl_12_226 ly_84 rf_84_86 ?_
                refine wa_iconst (v := 4) (by decide) ?_
                refine wa_iload rfl ?_
                refine wa_imul ?_
                refine wa_top (fun v21 hv21 => ?_)
                have tv21 := i_mulT hv21
                clear hv21
                refine wa_iload rfl ?_
                refine wa_iadd ?_
                refine wa_top (fun v22 hv22 => ?_)
                have tv22 := i_addT hv22
                clear hv22
                refine wa_iald ly_159 (by ((try simp only [vp_in_iff, Int32.lt_iff_toInt_lt, Int32.le_iff_toInt_le, ← Int32.toInt_inj, Int32.reduceToInt, n_1, n_2, n_8, Int32.toNatClampNeg, Int64.lt_iff_toInt_lt, Int64.le_iff_toInt_le, ← Int64.toInt_inj, Int64.reduceToInt, Int32.toInt_toInt64, lg_cmp_ge, lg_cmp_le, lg_cmp_gt, lg_cmp_lt, lg_cmp_eq, Bool.false_eq_true, Bool.true_eq_false, reduceCtorEq, false_iff, true_iff, iff_true, iff_false, and_true, true_and, and_false, false_and, reduceIte, ite_true, ite_false, eq_self] at *)) <;> omega) ?_
                refine wa_top (fun v23 hv23 => ?_)
                have rv23 : -20 ≤ v23.toInt ∧ v23.toInt ≤ 20 := by rw [← hv23]; exact ar_at (ar_fm Fs13 rfl rfl A_159) _
                clear hv23
                refine wa_i2l ?_
                refine wa_last ly_147 (by ((try simp only [vp_in_iff, Int32.lt_iff_toInt_lt, Int32.le_iff_toInt_le, ← Int32.toInt_inj, Int32.reduceToInt, n_1, n_2, n_8, Int32.toNatClampNeg, Int64.lt_iff_toInt_lt, Int64.le_iff_toInt_le, ← Int64.toInt_inj, Int64.reduceToInt, Int32.toInt_toInt64, lg_cmp_ge, lg_cmp_le, lg_cmp_gt, lg_cmp_lt, lg_cmp_eq, Bool.false_eq_true, Bool.true_eq_false, reduceCtorEq, false_iff, true_iff, iff_true, iff_false, and_true, true_and, and_false, false_and, reduceIte, ite_true, ite_false, eq_self] at *)) <;> omega) (fun s24 hs24 => ?_)
                have Fs24 : Fm [90, 91, 92, 147] [101, 187] σ s24 := by rw [hs24]; exact Fm.sl Fs13 rfl
                refine wa_iinc (v := (1)) (lv' := fun y25 => [(5, .int y25), (0, .ref 84), (4, .int v12)]) (by decide) rfl (by decide) (fun _ => rfl) (fun y25 hy25 => ?_)
                have ty25 := i_addT hy25.symm
                clear hy25
                refine wa_goto o_X12_takesAtom_60 (by decide) ?_
                refine wa_pick [1, 2, 0] rfl ?_
                exact ih14 _ (by ((try simp only [vp_in_iff, Int32.lt_iff_toInt_lt, Int32.le_iff_toInt_le, ← Int32.toInt_inj, Int32.reduceToInt, n_1, n_2, n_8, Int32.toNatClampNeg, Int64.lt_iff_toInt_lt, Int64.le_iff_toInt_le, ← Int64.toInt_inj, Int64.reduceToInt, Int32.toInt_toInt64, lg_cmp_ge, lg_cmp_le, lg_cmp_gt, lg_cmp_lt, lg_cmp_eq, Bool.false_eq_true, Bool.true_eq_false, reduceCtorEq, false_iff, true_iff, iff_true, iff_false, and_true, true_and, and_false, false_and, reduceIte, ite_true, ite_false, eq_self] at *)) <;> omega) _ _ ⟨Fs24, (by ((try simp only [vp_in_iff, Int32.lt_iff_toInt_lt, Int32.le_iff_toInt_le, ← Int32.toInt_inj, Int32.reduceToInt, n_1, n_2, n_8, Int32.toNatClampNeg, Int64.lt_iff_toInt_lt, Int64.le_iff_toInt_le, ← Int64.toInt_inj, Int64.reduceToInt, Int32.toInt_toInt64, lg_cmp_ge, lg_cmp_le, lg_cmp_gt, lg_cmp_lt, lg_cmp_eq, Bool.false_eq_true, Bool.true_eq_false, reduceCtorEq, false_iff, true_iff, iff_true, iff_false, and_true, true_and, and_false, false_and, reduceIte, ite_true, ite_false, eq_self] at *)) <;> omega), trivial⟩ rfl
          exact hi15 _ _ _ ⟨(Fm.rf [90, 91, 92, 147] [101, 187] σ), (by ((try simp only [vp_in_iff, Int32.lt_iff_toInt_lt, Int32.le_iff_toInt_le, ← Int32.toInt_inj, Int32.reduceToInt, n_1, n_2, n_8, Int32.toNatClampNeg, Int64.lt_iff_toInt_lt, Int64.le_iff_toInt_le, ← Int64.toInt_inj, Int64.reduceToInt, Int32.toInt_toInt64, lg_cmp_ge, lg_cmp_le, lg_cmp_gt, lg_cmp_lt, lg_cmp_eq, Bool.false_eq_true, Bool.true_eq_false, reduceCtorEq, false_iff, true_iff, iff_true, iff_false, and_true, true_and, and_false, false_and, reduceIte, ite_true, ite_false, eq_self] at *)) <;> omega), trivial⟩ rfl
        · replace h9 := bI_f (b := bx8) (rfl) h9
          have uh9_0 := iff_f cx8_1 h9
          refine wa_iconst (v := 0) (by decide) ?_
          refine wa_zreturn false (rfl) rfl rfl ?_
          exact ⟨_, rfl, (Fm.rf [90, 91, 92, 147] [101, 187] σ), trivial⟩
set_option maxHeartbeats 4000000 in
theorem sp_X12_takesSum (G : kG9) {d : Nat} (hd : 2 ≤ d) (σ : St) (a0 : Int32) (a1 : Int32) (a2 : Int32) (a3 : Int32) : Ct G M_X12_takesSum d [.ref 84, .int a0, .int a1, .int a2, .int a3] σ (fun r σ' => ∃ x : Bool, r = some (.int (bI x)) ∧ Fm [90, 91, 92, 147] [101, 187] σ σ' ∧ True) := by
  refine wa_start (by decide) rfl (Nat.le_of_ble_eq_true rfl) (lv := [(0, .ref 84), (1, .int a0), (2, .int a1), (3, .int a2), (4, .int a3)]) rfl o_X12_takesSum_0 rfl ?_
  have ua0 := Int32.toInt_lt a0
  have wa0 := Int32.le_toInt a0
  have ua1 := Int32.toInt_lt a1
  have wa1 := Int32.le_toInt a1
  have ua2 := Int32.toInt_lt a2
  have wa2 := Int32.le_toInt a2
  have ua3 := Int32.toInt_lt a3
  have wa3 := Int32.le_toInt a3
  refine wa_aload_n (i := 0) rfl rfl ?_
  refine wa_iload_n (i := 2) rfl rfl ?_
  refine wa_Vi (d9 := d - 1) [.int _] [] (sp_X12_isLine G (d := d - 1) (by omega) σ _) (rfl) rfl rfl (zr (by omega)) mk_X12_isLine ly_84 ml_12_1264 (Nat.le_of_ble_eq_true rfl) (fun x2 s1 hs1 => ?_)
  obtain ⟨bx2, ex2, zs1, -⟩ := pB hs1
  subst ex2
  subst zs1
  refine wa_if_eq o_X12_takesSum_17 (by decide) (fun h3 => ?_) (fun h3 => ?_)
  · replace h3 := bI_f (b := bx2) (rfl) h3
    refine wa_iconst (v := 0) (by decide) ?_
    refine wa_zreturn false (rfl) rfl rfl ?_
    exact ⟨_, rfl, (Fm.rf [90, 91, 92, 147] [101, 187] σ), trivial⟩
  · replace h3 := bI_t (b := bx2) (rfl) h3
    refine wa_aload_n (i := 0) rfl rfl ?_
    refine wa_iload rfl ?_
    refine wa_Vi (d9 := d - 1) [.int _] [] (sp_X12_isLine G (d := d - 1) (by omega) σ _) (rfl) rfl rfl (zr (by omega)) mk_X12_isLine ly_84 ml_12_1264 (Nat.le_of_ble_eq_true rfl) (fun x5 s4 hs4 => ?_)
    obtain ⟨bx5, ex5, zs4, -⟩ := pB hs4
    subst ex5
    subst zs4
    refine wa_if_ne o_X12_takesSum_19 (by decide) (fun h6 => ?_) (fun h6 => ?_)
    · replace h6 := bI_t (b := bx5) (rfl) h6
      refine wa_iconst (v := 0) (by decide) ?_
      refine wa_istoreD (lv' := [(5, .int 0), (0, .ref 84), (1, .int a0), (2, .int a1), (3, .int a2), (4, .int a3)]) (by decide) rfl ?_
      refine wa_pick [1, 2, 3, 4, 5, 0] rfl ?_
      have hi9 : ∀ (n9_22 : Nat) (l5 : Int32) (s7 : St), ((Fm [90, 91, 92, 147] [101, 187] σ s7) ∧ (0 ≤ l5.toInt) ∧ (True)) → (2147483647 - l5.toInt).toNat = n9_22 → WA G M_X12_takesSum (ZM G M_X12_takesSum d (fun r σ' => ∃ x : Bool, r = some (.int (bI x)) ∧ Fm [90, 91, 92, 147] [101, 187] σ σ' ∧ True)) B_X12_takesSum_22 [(0, .ref 84), (1, .int a0), (2, .int a1), (3, .int a2), (4, .int a3), (5, .int l5)] [] s7 := by
        intro n9_22
        induction n9_22 using Nat.strongRecOn with
        | _ n9_22 ih8 =>
          intro l5 s7 i9 m9_22
          obtain ⟨Fs7, jhi9_0, -⟩ := i9
          have ul5 := Int32.toInt_lt l5
          have wl5 := Int32.le_toInt l5
          refine wa_iload rfl ?_
          refine wa_iconst (v := 4) (by decide) ?_
          refine wa_icmp_ge o_X12_takesSum_71 (by decide) (fun h10 => ?_) (fun h10 => ?_)
          · refine wa_aload_n (i := 0) rfl rfl ?_
            refine wa_iload_n (i := 1) rfl rfl ?_
            refine wa_i2l ?_
            refine wa_aload_n (i := 0) rfl rfl ?_
            refine wa_getr ck_12 fl_12_438 ly_84 rf_84_185 ?_
            refine wa_iload_n (i := 2) rfl rfl ?_
            refine wa_lald ly_91 (by ((try simp only [vp_in_iff, Int32.lt_iff_toInt_lt, Int32.le_iff_toInt_le, ← Int32.toInt_inj, Int32.reduceToInt, n_1, n_2, n_8, Int32.toNatClampNeg, Int64.lt_iff_toInt_lt, Int64.le_iff_toInt_le, ← Int64.toInt_inj, Int64.reduceToInt, Int32.toInt_toInt64, lg_cmp_ge, lg_cmp_le, lg_cmp_gt, lg_cmp_lt, lg_cmp_eq, Bool.false_eq_true, Bool.true_eq_false, reduceCtorEq, false_iff, true_iff, iff_true, iff_false, and_true, true_and, and_false, false_and, reduceIte, ite_true, ite_false, eq_self] at *)) <;> omega) ?_
            refine wa_lmul ?_
            refine wa_topl (fun v11 hv11 => ?_)
            have tv11 := m_l_remU hv11
            clear hv11
            refine wa_iload_n (i := 3) rfl rfl ?_
            refine wa_i2l ?_
            refine wa_aload_n (i := 0) rfl rfl ?_
            refine wa_getr ck_12 fl_12_438 ly_84 rf_84_185 ?_
            refine wa_iload rfl ?_
            refine wa_lald ly_91 (by ((try simp only [vp_in_iff, Int32.lt_iff_toInt_lt, Int32.le_iff_toInt_le, ← Int32.toInt_inj, Int32.reduceToInt, n_1, n_2, n_8, Int32.toNatClampNeg, Int64.lt_iff_toInt_lt, Int64.le_iff_toInt_le, ← Int64.toInt_inj, Int64.reduceToInt, Int32.toInt_toInt64, lg_cmp_ge, lg_cmp_le, lg_cmp_gt, lg_cmp_lt, lg_cmp_eq, Bool.false_eq_true, Bool.true_eq_false, reduceCtorEq, false_iff, true_iff, iff_true, iff_false, and_true, true_and, and_false, false_and, reduceIte, ite_true, ite_false, eq_self] at *)) <;> omega) ?_
            refine wa_lmul ?_
            refine wa_topl (fun v12 hv12 => ?_)
            have tv12 := m_l_remU hv12
            clear hv12
            refine wa_ladd ?_
            refine wa_topl (fun v13 hv13 => ?_)
            have tv13 := a_l_remU hv13
            clear hv13
            refine wa_putl ck_12 fl_12_736 ly_84 (fun s14 hs14 => ?_)
            have Fs14 : Fm [90, 91, 92, 147] [101, 187] σ s14 := by rw [hs14]; exact Fm.sl Fs7 rfl
            refine wa_aload_n (i := 0) rfl rfl ?_
            refine wa_Vi (d9 := d - 1) [] [] (sp_X12_addLine G (d := d - 1) (by omega) s14 ) (rfl) rfl rfl (zr (by omega)) mk_X12_addLine ly_84 ml_12_1261 (Nat.le_of_ble_eq_true rfl) (fun x16 s15 hs15 => ?_)
            obtain ⟨bx16, ex16, fs15, -⟩ := pB hs15
            subst ex16
            have Fs15 : Fm [90, 91, 92, 147] [101, 187] σ s15 := Fm.tr Fs14 (Fm.wd fs15 rfl rfl)
            refine wa_zreturn bx16 (rfl) rfl rfl ?_
            exact ⟨_, rfl, Fs15, trivial⟩
          · have mh10 := nle_mx h10
            refine wa_aload_n (i := 0) rfl rfl ?_
            refine wa_getr ck_12 fl_12_262 ly_84 rf_84_100 ?_
            refine wa_iload rfl ?_
            refine wa_iload_n (i := 1) rfl rfl ?_
            refine wa_i2l ?_
            refine wa_aload_n (i := 0) rfl rfl ?_
            refine wa_getr ck_12 fl_12_435 ly_84 rf_84_184 ?_
            refine wa_iconst (v := 4) (by decide) ?_
            refine wa_iload_n (i := 2) rfl rfl ?_
            refine wa_imul ?_
            refine wa_top (fun v17 hv17 => ?_)
            have tv17 := i_mulT hv17
            clear hv17
            refine wa_iload rfl ?_
            refine wa_iadd ?_
            refine wa_top (fun v18 hv18 => ?_)
            have tv18 := i_addT hv18
            clear hv18
            refine wa_lald ly_92 (by ((try simp only [vp_in_iff, Int32.lt_iff_toInt_lt, Int32.le_iff_toInt_le, ← Int32.toInt_inj, Int32.reduceToInt, n_1, n_2, n_8, Int32.toNatClampNeg, Int64.lt_iff_toInt_lt, Int64.le_iff_toInt_le, ← Int64.toInt_inj, Int64.reduceToInt, Int32.toInt_toInt64, lg_cmp_ge, lg_cmp_le, lg_cmp_gt, lg_cmp_lt, lg_cmp_eq, Bool.false_eq_true, Bool.true_eq_false, reduceCtorEq, false_iff, true_iff, iff_true, iff_false, and_true, true_and, and_false, false_and, reduceIte, ite_true, ite_false, eq_self] at *)) <;> omega) ?_
            refine wa_lmul ?_
            refine wa_topl (fun v19 hv19 => ?_)
            have tv19 := m_l_remU hv19
            clear hv19
            refine wa_iload_n (i := 3) rfl rfl ?_
            refine wa_i2l ?_
            refine wa_aload_n (i := 0) rfl rfl ?_
            refine wa_getr ck_12 fl_12_435 ly_84 rf_84_184 ?_
            refine wa_iconst (v := 4) (by decide) ?_
            refine wa_iload rfl ?_
            refine wa_imul ?_
            refine wa_top (fun v20 hv20 => ?_)
            have tv20 := i_mulT hv20
            clear hv20
            refine wa_iload rfl ?_
            refine wa_iadd ?_
            refine wa_top (fun v21 hv21 => ?_)
            have tv21 := i_addT hv21
            clear hv21
            refine wa_lald ly_92 (by ((try simp only [vp_in_iff, Int32.lt_iff_toInt_lt, Int32.le_iff_toInt_le, ← Int32.toInt_inj, Int32.reduceToInt, n_1, n_2, n_8, Int32.toNatClampNeg, Int64.lt_iff_toInt_lt, Int64.le_iff_toInt_le, ← Int64.toInt_inj, Int64.reduceToInt, Int32.toInt_toInt64, lg_cmp_ge, lg_cmp_le, lg_cmp_gt, lg_cmp_lt, lg_cmp_eq, Bool.false_eq_true, Bool.true_eq_false, reduceCtorEq, false_iff, true_iff, iff_true, iff_false, and_true, true_and, and_false, false_and, reduceIte, ite_true, ite_false, eq_self] at *)) <;> omega) ?_
            refine wa_lmul ?_
            refine wa_topl (fun v22 hv22 => ?_)
            have tv22 := m_l_remU hv22
            clear hv22
            refine wa_ladd ?_
            refine wa_topl (fun v23 hv23 => ?_)
            have tv23 := a_l_remU hv23
            clear hv23
            refine wa_last ly_147 (by ((try simp only [vp_in_iff, Int32.lt_iff_toInt_lt, Int32.le_iff_toInt_le, ← Int32.toInt_inj, Int32.reduceToInt, n_1, n_2, n_8, Int32.toNatClampNeg, Int64.lt_iff_toInt_lt, Int64.le_iff_toInt_le, ← Int64.toInt_inj, Int64.reduceToInt, Int32.toInt_toInt64, lg_cmp_ge, lg_cmp_le, lg_cmp_gt, lg_cmp_lt, lg_cmp_eq, Bool.false_eq_true, Bool.true_eq_false, reduceCtorEq, false_iff, true_iff, iff_true, iff_false, and_true, true_and, and_false, false_and, reduceIte, ite_true, ite_false, eq_self] at *)) <;> omega) (fun s24 hs24 => ?_)
            have Fs24 : Fm [90, 91, 92, 147] [101, 187] σ s24 := by rw [hs24]; exact Fm.sl Fs7 rfl
            refine wa_iinc (v := (1)) (lv' := fun y25 => [(5, .int y25), (0, .ref 84), (1, .int a0), (2, .int a1), (3, .int a2), (4, .int a3)]) (by decide) rfl (by decide) (fun _ => rfl) (fun y25 hy25 => ?_)
            have ty25 := i_addT hy25.symm
            clear hy25
            refine wa_goto o_X12_takesSum_22 (by decide) ?_
            refine wa_pick [1, 2, 3, 4, 5, 0] rfl ?_
            exact ih8 _ (by ((try simp only [vp_in_iff, Int32.lt_iff_toInt_lt, Int32.le_iff_toInt_le, ← Int32.toInt_inj, Int32.reduceToInt, n_1, n_2, n_8, Int32.toNatClampNeg, Int64.lt_iff_toInt_lt, Int64.le_iff_toInt_le, ← Int64.toInt_inj, Int64.reduceToInt, Int32.toInt_toInt64, lg_cmp_ge, lg_cmp_le, lg_cmp_gt, lg_cmp_lt, lg_cmp_eq, Bool.false_eq_true, Bool.true_eq_false, reduceCtorEq, false_iff, true_iff, iff_true, iff_false, and_true, true_and, and_false, false_and, reduceIte, ite_true, ite_false, eq_self] at *)) <;> omega) _ _ ⟨Fs24, (by ((try simp only [vp_in_iff, Int32.lt_iff_toInt_lt, Int32.le_iff_toInt_le, ← Int32.toInt_inj, Int32.reduceToInt, n_1, n_2, n_8, Int32.toNatClampNeg, Int64.lt_iff_toInt_lt, Int64.le_iff_toInt_le, ← Int64.toInt_inj, Int64.reduceToInt, Int32.toInt_toInt64, lg_cmp_ge, lg_cmp_le, lg_cmp_gt, lg_cmp_lt, lg_cmp_eq, Bool.false_eq_true, Bool.true_eq_false, reduceCtorEq, false_iff, true_iff, iff_true, iff_false, and_true, true_and, and_false, false_and, reduceIte, ite_true, ite_false, eq_self] at *)) <;> omega), trivial⟩ rfl
      exact hi9 _ _ _ ⟨(Fm.rf [90, 91, 92, 147] [101, 187] σ), (by ((try simp only [vp_in_iff, Int32.lt_iff_toInt_lt, Int32.le_iff_toInt_le, ← Int32.toInt_inj, Int32.reduceToInt, n_1, n_2, n_8, Int32.toNatClampNeg, Int64.lt_iff_toInt_lt, Int64.le_iff_toInt_le, ← Int64.toInt_inj, Int64.reduceToInt, Int32.toInt_toInt64, lg_cmp_ge, lg_cmp_le, lg_cmp_gt, lg_cmp_lt, lg_cmp_eq, Bool.false_eq_true, Bool.true_eq_false, reduceCtorEq, false_iff, true_iff, iff_true, iff_false, and_true, true_and, and_false, false_and, reduceIte, ite_true, ite_false, eq_self] at *)) <;> omega), trivial⟩ rfl
    · replace h6 := bI_f (b := bx5) (rfl) h6
      refine wa_iconst (v := 0) (by decide) ?_
      refine wa_zreturn false (rfl) rfl rfl ?_
      exact ⟨_, rfl, (Fm.rf [90, 91, 92, 147] [101, 187] σ), trivial⟩
set_option maxHeartbeats 4000000 in
theorem sp_X12_takesCut (G : kG9) {d : Nat} (hd : 2 ≤ d) (σ : St) (a0 : Int32) (a1 : Int32) : Ct G M_X12_takesCut d [.ref 84, .int a0, .int a1] σ (fun r σ' => ∃ x : Bool, r = some (.int (bI x)) ∧ Fm [90, 91, 92, 147] [101, 187] σ σ' ∧ True) := by
  refine wa_start (by decide) rfl (Nat.le_of_ble_eq_true rfl) (lv := [(0, .ref 84), (1, .int a0), (2, .int a1)]) rfl o_X12_takesCut_0 rfl ?_
  have ua0 := Int32.toInt_lt a0
  have wa0 := Int32.le_toInt a0
  have ua1 := Int32.toInt_lt a1
  have wa1 := Int32.le_toInt a1
  refine wa_aload_n (i := 0) rfl rfl ?_
  refine wa_iload_n (i := 1) rfl rfl ?_
  refine wa_Vi (d9 := d - 1) [.int _] [] (sp_X12_isLine G (d := d - 1) (by omega) σ _) (rfl) rfl rfl (zr (by omega)) mk_X12_isLine ly_84 ml_12_1264 (Nat.le_of_ble_eq_true rfl) (fun x2 s1 hs1 => ?_)
  obtain ⟨bx2, ex2, zs1, -⟩ := pB hs1
  subst ex2
  subst zs1
  refine wa_if_eq o_X12_takesCut_12 (by decide) (fun h3 => ?_) (fun h3 => ?_)
  · replace h3 := bI_f (b := bx2) (rfl) h3
    refine wa_iconst (v := 0) (by decide) ?_
    refine wa_zreturn false (rfl) rfl rfl ?_
    exact ⟨_, rfl, (Fm.rf [90, 91, 92, 147] [101, 187] σ), trivial⟩
  · replace h3 := bI_t (b := bx2) (rfl) h3
    refine wa_iload_n (i := 2) rfl rfl ?_
    refine wa_if_ne o_X12_takesCut_14 (by decide) (fun h4 => ?_) (fun h4 => ?_)
    · refine wa_iconst (v := 1) (by decide) ?_
      refine wa_istore_nD (lv' := [(3, .int (bI true)), (0, .ref 84), (1, .int a0), (2, .int a1)]) (i := 3) rfl (by decide) rfl ?_
      refine wa_iconst (v := 0) (by decide) ?_
      refine wa_istoreD (lv' := [(4, .int 0), (3, .int (bI true)), (0, .ref 84), (1, .int a0), (2, .int a1)]) (by decide) rfl ?_
      refine wa_pick [2, 3, 4, 1, 0] rfl ?_
      have hi7 : ∀ (n9_19 : Nat) (l3 : Bool) (l4 : Int32) (s5 : St), ((Fm [90, 91, 92, 147] [101, 187] σ s5) ∧ (0 ≤ l4.toInt) ∧ (True)) → (2147483647 - l4.toInt).toNat = n9_19 → WA G M_X12_takesCut (ZM G M_X12_takesCut d (fun r σ' => ∃ x : Bool, r = some (.int (bI x)) ∧ Fm [90, 91, 92, 147] [101, 187] σ σ' ∧ True)) B_X12_takesCut_19 [(0, .ref 84), (1, .int a0), (2, .int a1), (3, .int (bI l3)), (4, .int l4)] [] s5 := by
        intro n9_19
        induction n9_19 using Nat.strongRecOn with
        | _ n9_19 ih6 =>
          intro l3 l4 s5 i9 m9_19
          obtain ⟨Fs5, jhi7_0, -⟩ := i9
          have ul4 := Int32.toInt_lt l4
          have wl4 := Int32.le_toInt l4
          refine wa_iload rfl ?_
          refine wa_iconst (v := 4) (by decide) ?_
          refine wa_icmp_ge o_X12_takesCut_81 (by decide) (fun h8 => ?_) (fun h8 => ?_)
          · refine wa_aload_n (i := 0) rfl rfl ?_
            refine wa_aload_n (i := 0) rfl rfl ?_
            refine wa_getr ck_12 fl_12_438 ly_84 rf_84_185 ?_
            refine wa_iload_n (i := 1) rfl rfl ?_
            refine wa_lald ly_91 (by ((try simp only [vp_in_iff, Int32.lt_iff_toInt_lt, Int32.le_iff_toInt_le, ← Int32.toInt_inj, Int32.reduceToInt, n_1, n_2, n_8, Int32.toNatClampNeg, Int64.lt_iff_toInt_lt, Int64.le_iff_toInt_le, ← Int64.toInt_inj, Int64.reduceToInt, Int32.toInt_toInt64, lg_cmp_ge, lg_cmp_le, lg_cmp_gt, lg_cmp_lt, lg_cmp_eq, Bool.false_eq_true, Bool.true_eq_false, reduceCtorEq, false_iff, true_iff, iff_true, iff_false, and_true, true_and, and_false, false_and, reduceIte, ite_true, ite_false, eq_self] at *)) <;> omega) ?_
            refine wa_iload_n (i := 2) rfl rfl ?_
            refine wa_i2l ?_
            refine wa_Sl (d9 := d - 1) [.long _, .long _] [.ref 84] (sp_X12_floor G (d := d - 1) (by omega) s5 _ _) (rfl) rfl rfl (zr (by omega)) mk_X12_floor ml_12_1175 (Nat.le_of_ble_eq_true rfl) (fun x10 s9 hs9 => ?_)
            obtain ⟨zs9, -⟩ := pL hs9
            subst zs9
            refine wa_putl ck_12 fl_12_736 ly_84 (fun s11 hs11 => ?_)
            have Fs11 : Fm [90, 91, 92, 147] [101, 187] σ s11 := by rw [hs11]; exact Fm.sl Fs5 rfl
            refine wa_iload_n (i := 3) rfl rfl ?_
            refine wa_if_eq o_X12_takesCut_111 (by decide) (fun h12 => ?_) (fun h12 => ?_)
            · replace h12 := bI_f (b := l3) (rfl) h12
              refine wa_iconst (v := 0) (by decide) ?_
              refine wa_zreturn false (rfl) rfl rfl ?_
              exact ⟨_, rfl, Fs11, trivial⟩
            · replace h12 := bI_t (b := l3) (rfl) h12
              refine wa_aload_n (i := 0) rfl rfl ?_
              refine wa_Vi (d9 := d - 1) [] [] (sp_X12_addLine G (d := d - 1) (by omega) s11 ) (rfl) rfl rfl (zr (by omega)) mk_X12_addLine ly_84 ml_12_1261 (Nat.le_of_ble_eq_true rfl) (fun x14 s13 hs13 => ?_)
              obtain ⟨bx14, ex14, fs13, -⟩ := pB hs13
              subst ex14
              have Fs13 : Fm [90, 91, 92, 147] [101, 187] σ s13 := Fm.tr Fs11 (Fm.wd fs13 rfl rfl)
              refine wa_if_eq o_X12_takesCut_111 (by decide) (fun h15 => ?_) (fun h15 => ?_)
              · replace h15 := bI_f (b := bx14) (rfl) h15
                refine wa_iconst (v := 0) (by decide) ?_
                refine wa_zreturn false (rfl) rfl rfl ?_
                exact ⟨_, rfl, Fs13, trivial⟩
              · replace h15 := bI_t (b := bx14) (rfl) h15
                refine wa_iconst (v := 1) (by decide) ?_
                refine wa_goto o_X12_takesCut_112 (by decide) ?_
                refine wa_zreturn true (rfl) rfl rfl ?_
                exact ⟨_, rfl, Fs13, trivial⟩
          · have mh8 := nle_mx h8
            refine wa_iload_n (i := 3) rfl rfl ?_
            refine wa_if_eq o_X12_takesCut_52 (by decide) (fun h16 => ?_) (fun h16 => ?_)
            · replace h16 := bI_f (b := l3) (rfl) h16
              refine wa_iconst (v := 0) (by decide) ?_
              refine wa_istore_nD (lv' := [(3, .int (bI false)), (0, .ref 84), (1, .int a0), (2, .int a1), (4, .int l4)]) (i := 3) rfl (by decide) rfl ?_
              refine wa_aload_n (i := 0) rfl rfl ?_
              refine wa_getr ck_12 fl_12_262 ly_84 rf_84_100 ?_
              refine wa_iload rfl ?_
              refine wa_aload_n (i := 0) rfl rfl ?_
              refine wa_getr ck_12 fl_12_435 ly_84 rf_84_184 ?_
              refine wa_iconst (v := 4) (by decide) ?_
              refine wa_iload_n (i := 1) rfl rfl ?_
              refine wa_imul ?_
              refine wa_top (fun v17 hv17 => ?_)
              have tv17 := i_mulT hv17
              clear hv17
              refine wa_iload rfl ?_
              refine wa_iadd ?_
              refine wa_top (fun v18 hv18 => ?_)
              have tv18 := i_addT hv18
              clear hv18
              refine wa_lald ly_92 (by ((try simp only [vp_in_iff, Int32.lt_iff_toInt_lt, Int32.le_iff_toInt_le, ← Int32.toInt_inj, Int32.reduceToInt, n_1, n_2, n_8, Int32.toNatClampNeg, Int64.lt_iff_toInt_lt, Int64.le_iff_toInt_le, ← Int64.toInt_inj, Int64.reduceToInt, Int32.toInt_toInt64, lg_cmp_ge, lg_cmp_le, lg_cmp_gt, lg_cmp_lt, lg_cmp_eq, Bool.false_eq_true, Bool.true_eq_false, reduceCtorEq, false_iff, true_iff, iff_true, iff_false, and_true, true_and, and_false, false_and, reduceIte, ite_true, ite_false, eq_self] at *)) <;> omega) ?_
              refine wa_iload_n (i := 2) rfl rfl ?_
              refine wa_i2l ?_
              refine wa_ldiv (by ((try simp only [vp_in_iff, Int32.lt_iff_toInt_lt, Int32.le_iff_toInt_le, ← Int32.toInt_inj, Int32.reduceToInt, n_1, n_2, n_8, Int32.toNatClampNeg, Int64.lt_iff_toInt_lt, Int64.le_iff_toInt_le, ← Int64.toInt_inj, Int64.reduceToInt, Int32.toInt_toInt64, lg_cmp_ge, lg_cmp_le, lg_cmp_gt, lg_cmp_lt, lg_cmp_eq, Bool.false_eq_true, Bool.true_eq_false, reduceCtorEq, false_iff, true_iff, iff_true, iff_false, and_true, true_and, and_false, false_and, reduceIte, ite_true, ite_false, eq_self] at *)) <;> omega) ?_
              refine wa_topl (fun v19 hv19 => ?_)
              have tv19 := l_divU hv19
              clear hv19
              refine wa_last ly_147 (by ((try simp only [vp_in_iff, Int32.lt_iff_toInt_lt, Int32.le_iff_toInt_le, ← Int32.toInt_inj, Int32.reduceToInt, n_1, n_2, n_8, Int32.toNatClampNeg, Int64.lt_iff_toInt_lt, Int64.le_iff_toInt_le, ← Int64.toInt_inj, Int64.reduceToInt, Int32.toInt_toInt64, lg_cmp_ge, lg_cmp_le, lg_cmp_gt, lg_cmp_lt, lg_cmp_eq, Bool.false_eq_true, Bool.true_eq_false, reduceCtorEq, false_iff, true_iff, iff_true, iff_false, and_true, true_and, and_false, false_and, reduceIte, ite_true, ite_false, eq_self] at *)) <;> omega) (fun s20 hs20 => ?_)
              have Fs20 : Fm [90, 91, 92, 147] [101, 187] σ s20 := by rw [hs20]; exact Fm.sl Fs5 rfl
              refine wa_iinc (v := (1)) (lv' := fun y21 => [(4, .int y21), (3, .int (bI false)), (0, .ref 84), (1, .int a0), (2, .int a1)]) (by decide) rfl (by decide) (fun _ => rfl) (fun y21 hy21 => ?_)
              have ty21 := i_addT hy21.symm
              clear hy21
              refine wa_goto o_X12_takesCut_19 (by decide) ?_
              refine wa_pick [2, 3, 4, 1, 0] rfl ?_
              exact ih6 _ (by ((try simp only [vp_in_iff, Int32.lt_iff_toInt_lt, Int32.le_iff_toInt_le, ← Int32.toInt_inj, Int32.reduceToInt, n_1, n_2, n_8, Int32.toNatClampNeg, Int64.lt_iff_toInt_lt, Int64.le_iff_toInt_le, ← Int64.toInt_inj, Int64.reduceToInt, Int32.toInt_toInt64, lg_cmp_ge, lg_cmp_le, lg_cmp_gt, lg_cmp_lt, lg_cmp_eq, Bool.false_eq_true, Bool.true_eq_false, reduceCtorEq, false_iff, true_iff, iff_true, iff_false, and_true, true_and, and_false, false_and, reduceIte, ite_true, ite_false, eq_self] at *)) <;> omega) _ _ _ ⟨Fs20, (by ((try simp only [vp_in_iff, Int32.lt_iff_toInt_lt, Int32.le_iff_toInt_le, ← Int32.toInt_inj, Int32.reduceToInt, n_1, n_2, n_8, Int32.toNatClampNeg, Int64.lt_iff_toInt_lt, Int64.le_iff_toInt_le, ← Int64.toInt_inj, Int64.reduceToInt, Int32.toInt_toInt64, lg_cmp_ge, lg_cmp_le, lg_cmp_gt, lg_cmp_lt, lg_cmp_eq, Bool.false_eq_true, Bool.true_eq_false, reduceCtorEq, false_iff, true_iff, iff_true, iff_false, and_true, true_and, and_false, false_and, reduceIte, ite_true, ite_false, eq_self] at *)) <;> omega), trivial⟩ rfl
            · replace h16 := bI_t (b := l3) (rfl) h16
              refine wa_aload_n (i := 0) rfl rfl ?_
              refine wa_getr ck_12 fl_12_435 ly_84 rf_84_184 ?_
              refine wa_iconst (v := 4) (by decide) ?_
              refine wa_iload_n (i := 1) rfl rfl ?_
              refine wa_imul ?_
              refine wa_top (fun v22 hv22 => ?_)
              have tv22 := i_mulT hv22
              clear hv22
              refine wa_iload rfl ?_
              refine wa_iadd ?_
              refine wa_top (fun v23 hv23 => ?_)
              have tv23 := i_addT hv23
              clear hv23
              refine wa_lald ly_92 (by ((try simp only [vp_in_iff, Int32.lt_iff_toInt_lt, Int32.le_iff_toInt_le, ← Int32.toInt_inj, Int32.reduceToInt, n_1, n_2, n_8, Int32.toNatClampNeg, Int64.lt_iff_toInt_lt, Int64.le_iff_toInt_le, ← Int64.toInt_inj, Int64.reduceToInt, Int32.toInt_toInt64, lg_cmp_ge, lg_cmp_le, lg_cmp_gt, lg_cmp_lt, lg_cmp_eq, Bool.false_eq_true, Bool.true_eq_false, reduceCtorEq, false_iff, true_iff, iff_true, iff_false, and_true, true_and, and_false, false_and, reduceIte, ite_true, ite_false, eq_self] at *)) <;> omega) ?_
              refine wa_iload_n (i := 2) rfl rfl ?_
              refine wa_i2l ?_
              refine wa_lrem (by ((try simp only [vp_in_iff, Int32.lt_iff_toInt_lt, Int32.le_iff_toInt_le, ← Int32.toInt_inj, Int32.reduceToInt, n_1, n_2, n_8, Int32.toNatClampNeg, Int64.lt_iff_toInt_lt, Int64.le_iff_toInt_le, ← Int64.toInt_inj, Int64.reduceToInt, Int32.toInt_toInt64, lg_cmp_ge, lg_cmp_le, lg_cmp_gt, lg_cmp_lt, lg_cmp_eq, Bool.false_eq_true, Bool.true_eq_false, reduceCtorEq, false_iff, true_iff, iff_true, iff_false, and_true, true_and, and_false, false_and, reduceIte, ite_true, ite_false, eq_self] at *)) <;> omega) ?_
              refine wa_topl (fun v24 hv24 => ?_)
              have tv24 := l_remU hv24
              clear hv24
              refine wa_lconst (v := 0) (by decide) ?_
              refine wa_lcmp ?_
              refine wa_top (fun v25 hv25 => ?_)
              have tv25 := i_cmpT hv25
              clear hv25
              refine wa_if_ne o_X12_takesCut_52 (by decide) (fun h26 => ?_) (fun h26 => ?_)
              · refine wa_iconst (v := 0) (by decide) ?_
                refine wa_istore_nD (lv' := [(3, .int (bI false)), (0, .ref 84), (1, .int a0), (2, .int a1), (4, .int l4)]) (i := 3) rfl (by decide) rfl ?_
                refine wa_aload_n (i := 0) rfl rfl ?_
                refine wa_getr ck_12 fl_12_262 ly_84 rf_84_100 ?_
                refine wa_iload rfl ?_
                refine wa_aload_n (i := 0) rfl rfl ?_
                refine wa_getr ck_12 fl_12_435 ly_84 rf_84_184 ?_
                refine wa_iconst (v := 4) (by decide) ?_
                refine wa_iload_n (i := 1) rfl rfl ?_
                refine wa_imul ?_
                refine wa_top (fun v27 hv27 => ?_)
                have tv27 := i_mulT hv27
                clear hv27
                refine wa_iload rfl ?_
                refine wa_iadd ?_
                refine wa_top (fun v28 hv28 => ?_)
                have tv28 := i_addT hv28
                clear hv28
                refine wa_lald ly_92 (by ((try simp only [vp_in_iff, Int32.lt_iff_toInt_lt, Int32.le_iff_toInt_le, ← Int32.toInt_inj, Int32.reduceToInt, n_1, n_2, n_8, Int32.toNatClampNeg, Int64.lt_iff_toInt_lt, Int64.le_iff_toInt_le, ← Int64.toInt_inj, Int64.reduceToInt, Int32.toInt_toInt64, lg_cmp_ge, lg_cmp_le, lg_cmp_gt, lg_cmp_lt, lg_cmp_eq, Bool.false_eq_true, Bool.true_eq_false, reduceCtorEq, false_iff, true_iff, iff_true, iff_false, and_true, true_and, and_false, false_and, reduceIte, ite_true, ite_false, eq_self] at *)) <;> omega) ?_
                refine wa_iload_n (i := 2) rfl rfl ?_
                refine wa_i2l ?_
                refine wa_ldiv (by ((try simp only [vp_in_iff, Int32.lt_iff_toInt_lt, Int32.le_iff_toInt_le, ← Int32.toInt_inj, Int32.reduceToInt, n_1, n_2, n_8, Int32.toNatClampNeg, Int64.lt_iff_toInt_lt, Int64.le_iff_toInt_le, ← Int64.toInt_inj, Int64.reduceToInt, Int32.toInt_toInt64, lg_cmp_ge, lg_cmp_le, lg_cmp_gt, lg_cmp_lt, lg_cmp_eq, Bool.false_eq_true, Bool.true_eq_false, reduceCtorEq, false_iff, true_iff, iff_true, iff_false, and_true, true_and, and_false, false_and, reduceIte, ite_true, ite_false, eq_self] at *)) <;> omega) ?_
                refine wa_topl (fun v29 hv29 => ?_)
                have tv29 := l_divU hv29
                clear hv29
                refine wa_last ly_147 (by ((try simp only [vp_in_iff, Int32.lt_iff_toInt_lt, Int32.le_iff_toInt_le, ← Int32.toInt_inj, Int32.reduceToInt, n_1, n_2, n_8, Int32.toNatClampNeg, Int64.lt_iff_toInt_lt, Int64.le_iff_toInt_le, ← Int64.toInt_inj, Int64.reduceToInt, Int32.toInt_toInt64, lg_cmp_ge, lg_cmp_le, lg_cmp_gt, lg_cmp_lt, lg_cmp_eq, Bool.false_eq_true, Bool.true_eq_false, reduceCtorEq, false_iff, true_iff, iff_true, iff_false, and_true, true_and, and_false, false_and, reduceIte, ite_true, ite_false, eq_self] at *)) <;> omega) (fun s30 hs30 => ?_)
                have Fs30 : Fm [90, 91, 92, 147] [101, 187] σ s30 := by rw [hs30]; exact Fm.sl Fs5 rfl
                refine wa_iinc (v := (1)) (lv' := fun y31 => [(4, .int y31), (3, .int (bI false)), (0, .ref 84), (1, .int a0), (2, .int a1)]) (by decide) rfl (by decide) (fun _ => rfl) (fun y31 hy31 => ?_)
                have ty31 := i_addT hy31.symm
                clear hy31
                refine wa_goto o_X12_takesCut_19 (by decide) ?_
                refine wa_pick [2, 3, 4, 1, 0] rfl ?_
                exact ih6 _ (by ((try simp only [vp_in_iff, Int32.lt_iff_toInt_lt, Int32.le_iff_toInt_le, ← Int32.toInt_inj, Int32.reduceToInt, n_1, n_2, n_8, Int32.toNatClampNeg, Int64.lt_iff_toInt_lt, Int64.le_iff_toInt_le, ← Int64.toInt_inj, Int64.reduceToInt, Int32.toInt_toInt64, lg_cmp_ge, lg_cmp_le, lg_cmp_gt, lg_cmp_lt, lg_cmp_eq, Bool.false_eq_true, Bool.true_eq_false, reduceCtorEq, false_iff, true_iff, iff_true, iff_false, and_true, true_and, and_false, false_and, reduceIte, ite_true, ite_false, eq_self] at *)) <;> omega) _ _ _ ⟨Fs30, (by ((try simp only [vp_in_iff, Int32.lt_iff_toInt_lt, Int32.le_iff_toInt_le, ← Int32.toInt_inj, Int32.reduceToInt, n_1, n_2, n_8, Int32.toNatClampNeg, Int64.lt_iff_toInt_lt, Int64.le_iff_toInt_le, ← Int64.toInt_inj, Int64.reduceToInt, Int32.toInt_toInt64, lg_cmp_ge, lg_cmp_le, lg_cmp_gt, lg_cmp_lt, lg_cmp_eq, Bool.false_eq_true, Bool.true_eq_false, reduceCtorEq, false_iff, true_iff, iff_true, iff_false, and_true, true_and, and_false, false_and, reduceIte, ite_true, ite_false, eq_self] at *)) <;> omega), trivial⟩ rfl
              · refine wa_iconst (v := 1) (by decide) ?_
                refine wa_goto o_X12_takesCut_53 (by decide) ?_
                refine wa_istore_nD (lv' := [(3, .int (bI true)), (0, .ref 84), (1, .int a0), (2, .int a1), (4, .int l4)]) (i := 3) rfl (by decide) rfl ?_
                refine wa_aload_n (i := 0) rfl rfl ?_
                refine wa_getr ck_12 fl_12_262 ly_84 rf_84_100 ?_
                refine wa_iload rfl ?_
                refine wa_aload_n (i := 0) rfl rfl ?_
                refine wa_getr ck_12 fl_12_435 ly_84 rf_84_184 ?_
                refine wa_iconst (v := 4) (by decide) ?_
                refine wa_iload_n (i := 1) rfl rfl ?_
                refine wa_imul ?_
                refine wa_top (fun v32 hv32 => ?_)
                have tv32 := i_mulT hv32
                clear hv32
                refine wa_iload rfl ?_
                refine wa_iadd ?_
                refine wa_top (fun v33 hv33 => ?_)
                have tv33 := i_addT hv33
                clear hv33
                refine wa_lald ly_92 (by ((try simp only [vp_in_iff, Int32.lt_iff_toInt_lt, Int32.le_iff_toInt_le, ← Int32.toInt_inj, Int32.reduceToInt, n_1, n_2, n_8, Int32.toNatClampNeg, Int64.lt_iff_toInt_lt, Int64.le_iff_toInt_le, ← Int64.toInt_inj, Int64.reduceToInt, Int32.toInt_toInt64, lg_cmp_ge, lg_cmp_le, lg_cmp_gt, lg_cmp_lt, lg_cmp_eq, Bool.false_eq_true, Bool.true_eq_false, reduceCtorEq, false_iff, true_iff, iff_true, iff_false, and_true, true_and, and_false, false_and, reduceIte, ite_true, ite_false, eq_self] at *)) <;> omega) ?_
                refine wa_iload_n (i := 2) rfl rfl ?_
                refine wa_i2l ?_
                refine wa_ldiv (by ((try simp only [vp_in_iff, Int32.lt_iff_toInt_lt, Int32.le_iff_toInt_le, ← Int32.toInt_inj, Int32.reduceToInt, n_1, n_2, n_8, Int32.toNatClampNeg, Int64.lt_iff_toInt_lt, Int64.le_iff_toInt_le, ← Int64.toInt_inj, Int64.reduceToInt, Int32.toInt_toInt64, lg_cmp_ge, lg_cmp_le, lg_cmp_gt, lg_cmp_lt, lg_cmp_eq, Bool.false_eq_true, Bool.true_eq_false, reduceCtorEq, false_iff, true_iff, iff_true, iff_false, and_true, true_and, and_false, false_and, reduceIte, ite_true, ite_false, eq_self] at *)) <;> omega) ?_
                refine wa_topl (fun v34 hv34 => ?_)
                have tv34 := l_divU hv34
                clear hv34
                refine wa_last ly_147 (by ((try simp only [vp_in_iff, Int32.lt_iff_toInt_lt, Int32.le_iff_toInt_le, ← Int32.toInt_inj, Int32.reduceToInt, n_1, n_2, n_8, Int32.toNatClampNeg, Int64.lt_iff_toInt_lt, Int64.le_iff_toInt_le, ← Int64.toInt_inj, Int64.reduceToInt, Int32.toInt_toInt64, lg_cmp_ge, lg_cmp_le, lg_cmp_gt, lg_cmp_lt, lg_cmp_eq, Bool.false_eq_true, Bool.true_eq_false, reduceCtorEq, false_iff, true_iff, iff_true, iff_false, and_true, true_and, and_false, false_and, reduceIte, ite_true, ite_false, eq_self] at *)) <;> omega) (fun s35 hs35 => ?_)
                have Fs35 : Fm [90, 91, 92, 147] [101, 187] σ s35 := by rw [hs35]; exact Fm.sl Fs5 rfl
                refine wa_iinc (v := (1)) (lv' := fun y36 => [(4, .int y36), (3, .int (bI true)), (0, .ref 84), (1, .int a0), (2, .int a1)]) (by decide) rfl (by decide) (fun _ => rfl) (fun y36 hy36 => ?_)
                have ty36 := i_addT hy36.symm
                clear hy36
                refine wa_goto o_X12_takesCut_19 (by decide) ?_
                refine wa_pick [2, 3, 4, 1, 0] rfl ?_
                exact ih6 _ (by ((try simp only [vp_in_iff, Int32.lt_iff_toInt_lt, Int32.le_iff_toInt_le, ← Int32.toInt_inj, Int32.reduceToInt, n_1, n_2, n_8, Int32.toNatClampNeg, Int64.lt_iff_toInt_lt, Int64.le_iff_toInt_le, ← Int64.toInt_inj, Int64.reduceToInt, Int32.toInt_toInt64, lg_cmp_ge, lg_cmp_le, lg_cmp_gt, lg_cmp_lt, lg_cmp_eq, Bool.false_eq_true, Bool.true_eq_false, reduceCtorEq, false_iff, true_iff, iff_true, iff_false, and_true, true_and, and_false, false_and, reduceIte, ite_true, ite_false, eq_self] at *)) <;> omega) _ _ _ ⟨Fs35, (by ((try simp only [vp_in_iff, Int32.lt_iff_toInt_lt, Int32.le_iff_toInt_le, ← Int32.toInt_inj, Int32.reduceToInt, n_1, n_2, n_8, Int32.toNatClampNeg, Int64.lt_iff_toInt_lt, Int64.le_iff_toInt_le, ← Int64.toInt_inj, Int64.reduceToInt, Int32.toInt_toInt64, lg_cmp_ge, lg_cmp_le, lg_cmp_gt, lg_cmp_lt, lg_cmp_eq, Bool.false_eq_true, Bool.true_eq_false, reduceCtorEq, false_iff, true_iff, iff_true, iff_false, and_true, true_and, and_false, false_and, reduceIte, ite_true, ite_false, eq_self] at *)) <;> omega), trivial⟩ rfl
      exact hi7 _ _ _ _ ⟨(Fm.rf [90, 91, 92, 147] [101, 187] σ), (by ((try simp only [vp_in_iff, Int32.lt_iff_toInt_lt, Int32.le_iff_toInt_le, ← Int32.toInt_inj, Int32.reduceToInt, n_1, n_2, n_8, Int32.toNatClampNeg, Int64.lt_iff_toInt_lt, Int64.le_iff_toInt_le, ← Int64.toInt_inj, Int64.reduceToInt, Int32.toInt_toInt64, lg_cmp_ge, lg_cmp_le, lg_cmp_gt, lg_cmp_lt, lg_cmp_eq, Bool.false_eq_true, Bool.true_eq_false, reduceCtorEq, false_iff, true_iff, iff_true, iff_false, and_true, true_and, and_false, false_and, reduceIte, ite_true, ite_false, eq_self] at *)) <;> omega), trivial⟩ rfl
    · refine wa_iconst (v := 0) (by decide) ?_
      refine wa_zreturn false (rfl) rfl rfl ?_
      exact ⟨_, rfl, (Fm.rf [90, 91, 92, 147] [101, 187] σ), trivial⟩
set_option maxHeartbeats 4000000 in
theorem sp_X12_takesCase (G : kG9) {d : Nat} (hd : 2 ≤ d) (σ : St) (a0 : Int32) (a1 : Bool) (a2 : Int32) (A_202 : AR ap_202 σ 202) : Ct G M_X12_takesCase d [.ref 84, .int a0, .int (bI a1), .int a2] σ (fun r σ' => ∃ x : Bool, r = some (.int (bI x)) ∧ Fm [86, 87, 88, 89, 90, 91, 92, 147] [101, 102, 187, 192] σ σ' ∧ True) := by
  refine wa_start (by decide) rfl (Nat.le_of_ble_eq_true rfl) (lv := [(0, .ref 84), (1, .int a0), (2, .int (bI a1)), (3, .int a2)]) rfl o_X12_takesCase_0 rfl ?_
  have ua0 := Int32.toInt_lt a0
  have wa0 := Int32.le_toInt a0
  have ua2 := Int32.toInt_lt a2
  have wa2 := Int32.le_toInt a2
  refine wa_aload_n (i := 0) rfl rfl ?_
  refine wa_iload_n (i := 1) rfl rfl ?_
  refine wa_Vi (d9 := d - 1) [.int _] [] (sp_X12_variableAt G (d := d - 1) (by omega) σ _ A_202) (rfl) rfl rfl (zr (by omega)) mk_X12_variableAt ly_84 ml_12_685 (Nat.le_of_ble_eq_true rfl) (fun x2 s1 hs1 => ?_)
  obtain ⟨zs1, -⟩ := pI hs1
  subst zs1
  refine wa_istoreD (lv' := [(4, .int x2), (0, .ref 84), (1, .int a0), (2, .int (bI a1)), (3, .int a2)]) (by decide) rfl ?_
  refine wa_iload rfl ?_
  refine wa_iconst (v := (-1)) (by decide) ?_
  refine wa_icmp_eq o_X12_takesCase_22 (by decide) (fun h3 => ?_) (fun h3 => ?_)
  · refine wa_iconst (v := 0) (by decide) ?_
    refine wa_zreturn false (rfl) rfl rfl ?_
    exact ⟨_, rfl, (Fm.rf [86, 87, 88, 89, 90, 91, 92, 147] [101, 102, 187, 192] σ), trivial⟩
  · refine wa_aload_n (i := 0) rfl rfl ?_
    refine wa_geti ck_12 fl_12_1250 ly_84 ?_
    refine wa_bipush (v := 20) (by decide) ?_
    refine wa_icmp_ne o_X12_takesCase_24 (by decide) (fun h4 => ?_) (fun h4 => ?_)
    · refine wa_aload_n (i := 0) rfl rfl ?_
      refine wa_iload_n (i := 2) rfl rfl ?_
      refine wa_if_eq o_X12_takesCase_36 (by decide) (fun h5 => ?_) (fun h5 => ?_)
      · replace h5 := bI_f (b := a1) (rfl) h5
        refine wa_iload_n (i := 3) rfl rfl ?_
        refine wa_i2l ?_
        refine wa_Vv (d9 := d - 1) [.long _] [] (sp_X12_clearHere G (d := d - 1) (by omega) σ _) (rfl) rfl rfl (zr (by omega)) mk_X12_clearHere ly_84 ml_12_771 (Nat.le_of_ble_eq_true rfl) (fun s6 hs6 => ?_)
        obtain ⟨fs6, -⟩ := hs6
        have Fs6 : Fm [86, 87, 88, 89, 90, 91, 92, 147] [101, 102, 187, 192] σ s6 := Fm.tr (Fm.rf [86, 87, 88, 89, 90, 91, 92, 147] [101, 102, 187, 192] σ) (Fm.wd fs6 rfl rfl)
        refine wa_aload_n (i := 0) rfl rfl ?_
        refine wa_getr ck_12 fl_12_262 ly_84 rf_84_100 ?_
        refine wa_iload rfl ?_
        refine wa_lconst (v := 1) (by decide) ?_
        refine wa_last ly_147 (by ((try simp only [vp_in_iff, Int32.lt_iff_toInt_lt, Int32.le_iff_toInt_le, ← Int32.toInt_inj, Int32.reduceToInt, n_1, n_2, n_8, Int32.toNatClampNeg, Int64.lt_iff_toInt_lt, Int64.le_iff_toInt_le, ← Int64.toInt_inj, Int64.reduceToInt, Int32.toInt_toInt64, lg_cmp_ge, lg_cmp_le, lg_cmp_gt, lg_cmp_lt, lg_cmp_eq, Bool.false_eq_true, Bool.true_eq_false, reduceCtorEq, false_iff, true_iff, iff_true, iff_false, and_true, true_and, and_false, false_and, reduceIte, ite_true, ite_false, eq_self] at *)) <;> omega) (fun s8 hs8 => ?_)
        have Fs8 : Fm [86, 87, 88, 89, 90, 91, 92, 147] [101, 102, 187, 192] σ s8 := by rw [hs8]; exact Fm.sl Fs6 rfl
        refine wa_aload_n (i := 0) rfl rfl ?_
        refine wa_Vi (d9 := d - 1) [] [] (sp_X12_addLine G (d := d - 1) (by omega) s8 ) (rfl) rfl rfl (zr (by omega)) mk_X12_addLine ly_84 ml_12_1261 (Nat.le_of_ble_eq_true rfl) (fun x10 s9 hs9 => ?_)
        obtain ⟨bx10, ex10, fs9, -⟩ := pB hs9
        subst ex10
        have Fs9 : Fm [86, 87, 88, 89, 90, 91, 92, 147] [101, 102, 187, 192] σ s9 := Fm.tr Fs8 (Fm.wd fs9 rfl rfl)
        refine wa_if_ne o_X12_takesCase_58 (by decide) (fun h11 => ?_) (fun h11 => ?_)
        · replace h11 := bI_t (b := bx10) (rfl) h11
          refine wa_aload_n (i := 0) rfl rfl ?_
          refine wa_getr ck_12 fl_12_444 ly_84 rf_84_188 ?_
          refine wa_aload_n (i := 0) rfl rfl ?_
          refine wa_geti ck_12 fl_12_1250 ly_84 ?_
          refine wa_rw ((Fm.gi fs9 (q := 84) (k := 192) rfl rfl).trans ((nx_gi_sl hs8).trans (Fm.gi fs6 (q := 84) (k := 192) rfl rfl))) ?_
          refine wa_iload rfl ?_
          refine wa_iast ly_89 (by ((try simp only [vp_in_iff, Int32.lt_iff_toInt_lt, Int32.le_iff_toInt_le, ← Int32.toInt_inj, Int32.reduceToInt, n_1, n_2, n_8, Int32.toNatClampNeg, Int64.lt_iff_toInt_lt, Int64.le_iff_toInt_le, ← Int64.toInt_inj, Int64.reduceToInt, Int32.toInt_toInt64, lg_cmp_ge, lg_cmp_le, lg_cmp_gt, lg_cmp_lt, lg_cmp_eq, Bool.false_eq_true, Bool.true_eq_false, reduceCtorEq, false_iff, true_iff, iff_true, iff_false, and_true, true_and, and_false, false_and, reduceIte, ite_true, ite_false, eq_self] at *)) <;> omega) (fun s12 hs12 => ?_)
          have Fs12 : Fm [86, 87, 88, 89, 90, 91, 92, 147] [101, 102, 187, 192] σ s12 := by rw [hs12]; exact Fm.si Fs9 rfl
          refine wa_aload_n (i := 0) rfl rfl ?_
          refine wa_getr ck_12 fl_12_447 ly_84 rf_84_189 ?_
          refine wa_aload_n (i := 0) rfl rfl ?_
          refine wa_geti ck_12 fl_12_1250 ly_84 ?_
          refine wa_rw ((nxq_gi_si hs12 (by decide)).trans ((Fm.gi fs9 (q := 84) (k := 192) rfl rfl).trans ((nx_gi_sl hs8).trans (Fm.gi fs6 (q := 84) (k := 192) rfl rfl)))) ?_
          refine wa_aload_n (i := 0) rfl rfl ?_
          refine wa_getl ck_12 fl_12_736 ly_84 ?_
          refine wa_rwl ((nx_gl_si hs12).trans ((Fm.gl fs9 (q := 84) (k := 101) rfl rfl).trans (nxq_gl_sl hs8 (by decide)))) ?_
          refine wa_last ly_88 (by ((try simp only [vp_in_iff, Int32.lt_iff_toInt_lt, Int32.le_iff_toInt_le, ← Int32.toInt_inj, Int32.reduceToInt, n_1, n_2, n_8, Int32.toNatClampNeg, Int64.lt_iff_toInt_lt, Int64.le_iff_toInt_le, ← Int64.toInt_inj, Int64.reduceToInt, Int32.toInt_toInt64, lg_cmp_ge, lg_cmp_le, lg_cmp_gt, lg_cmp_lt, lg_cmp_eq, Bool.false_eq_true, Bool.true_eq_false, reduceCtorEq, false_iff, true_iff, iff_true, iff_false, and_true, true_and, and_false, false_and, reduceIte, ite_true, ite_false, eq_self] at *)) <;> omega) (fun s13 hs13 => ?_)
          have Fs13 : Fm [86, 87, 88, 89, 90, 91, 92, 147] [101, 102, 187, 192] σ s13 := by rw [hs13]; exact Fm.sl Fs12 rfl
          refine wa_aload_n (i := 0) rfl rfl ?_
          refine wa_getr ck_12 fl_12_450 ly_84 rf_84_190 ?_
          refine wa_aload_n (i := 0) rfl rfl ?_
          refine wa_geti ck_12 fl_12_1250 ly_84 ?_
          refine wa_rw ((nx_gi_sl hs13).trans ((nxq_gi_si hs12 (by decide)).trans ((Fm.gi fs9 (q := 84) (k := 192) rfl rfl).trans ((nx_gi_sl hs8).trans (Fm.gi fs6 (q := 84) (k := 192) rfl rfl))))) ?_
          refine wa_aload_n (i := 0) rfl rfl ?_
          refine wa_geti ck_12 fl_12_1247 ly_84 ?_
          refine wa_rw ((nx_gi_sl hs13).trans (nxq_gi_si hs12 (by decide))) ?_
          refine wa_iast ly_87 (by ((try simp only [vp_in_iff, Int32.lt_iff_toInt_lt, Int32.le_iff_toInt_le, ← Int32.toInt_inj, Int32.reduceToInt, n_1, n_2, n_8, Int32.toNatClampNeg, Int64.lt_iff_toInt_lt, Int64.le_iff_toInt_le, ← Int64.toInt_inj, Int64.reduceToInt, Int32.toInt_toInt64, lg_cmp_ge, lg_cmp_le, lg_cmp_gt, lg_cmp_lt, lg_cmp_eq, Bool.false_eq_true, Bool.true_eq_false, reduceCtorEq, false_iff, true_iff, iff_true, iff_false, and_true, true_and, and_false, false_and, reduceIte, ite_true, ite_false, eq_self] at *)) <;> omega) (fun s14 hs14 => ?_)
          have Fs14 : Fm [86, 87, 88, 89, 90, 91, 92, 147] [101, 102, 187, 192] σ s14 := by rw [hs14]; exact Fm.si Fs13 rfl
          refine wa_aload_n (i := 0) rfl rfl ?_
          refine wa_getr ck_12 fl_12_453 ly_84 rf_84_191 ?_
          refine wa_aload_n (i := 0) rfl rfl ?_
          refine wa_geti ck_12 fl_12_1250 ly_84 ?_
          refine wa_rw ((nxq_gi_si hs14 (by decide)).trans ((nx_gi_sl hs13).trans ((nxq_gi_si hs12 (by decide)).trans ((Fm.gi fs9 (q := 84) (k := 192) rfl rfl).trans ((nx_gi_sl hs8).trans (Fm.gi fs6 (q := 84) (k := 192) rfl rfl)))))) ?_
          refine wa_iconst (v := 0) (by decide) ?_
          refine wa_zast false (rfl) ly_86 (by ((try simp only [vp_in_iff, Int32.lt_iff_toInt_lt, Int32.le_iff_toInt_le, ← Int32.toInt_inj, Int32.reduceToInt, n_1, n_2, n_8, Int32.toNatClampNeg, Int64.lt_iff_toInt_lt, Int64.le_iff_toInt_le, ← Int64.toInt_inj, Int64.reduceToInt, Int32.toInt_toInt64, lg_cmp_ge, lg_cmp_le, lg_cmp_gt, lg_cmp_lt, lg_cmp_eq, Bool.false_eq_true, Bool.true_eq_false, reduceCtorEq, false_iff, true_iff, iff_true, iff_false, and_true, true_and, and_false, false_and, reduceIte, ite_true, ite_false, eq_self] at *)) <;> omega) (fun s15 hs15 => ?_)
          have Fs15 : Fm [86, 87, 88, 89, 90, 91, 92, 147] [101, 102, 187, 192] σ s15 := by rw [hs15]; exact Fm.sb Fs14 rfl
          refine wa_aload_n (i := 0) rfl rfl ?_
          refine wa_dup rfl ?_
          refine wa_geti ck_12 fl_12_1250 ly_84 ?_
          refine wa_rw ((nx_gi_sb hs15).trans ((nxq_gi_si hs14 (by decide)).trans ((nx_gi_sl hs13).trans ((nxq_gi_si hs12 (by decide)).trans ((Fm.gi fs9 (q := 84) (k := 192) rfl rfl).trans ((nx_gi_sl hs8).trans (Fm.gi fs6 (q := 84) (k := 192) rfl rfl))))))) ?_
          refine wa_iconst (v := 1) (by decide) ?_
          refine wa_iadd ?_
          refine wa_top (fun v16 hv16 => ?_)
          have tv16 := i_addT hv16
          clear hv16
          refine wa_puti ck_12 fl_12_1250 ly_84 (fun s17 hs17 => ?_)
          have Fs17 : Fm [86, 87, 88, 89, 90, 91, 92, 147] [101, 102, 187, 192] σ s17 := by rw [hs17]; exact Fm.si Fs15 rfl
          refine wa_iconst (v := 1) (by decide) ?_
          refine wa_zreturn true (rfl) rfl rfl ?_
          exact ⟨_, rfl, Fs17, trivial⟩
        · replace h11 := bI_f (b := bx10) (rfl) h11
          refine wa_iconst (v := 0) (by decide) ?_
          refine wa_zreturn false (rfl) rfl rfl ?_
          exact ⟨_, rfl, Fs9, trivial⟩
      · replace h5 := bI_t (b := a1) (rfl) h5
        refine wa_lconst (v := 0) (by decide) ?_
        refine wa_iload_n (i := 3) rfl rfl ?_
        refine wa_i2l ?_
        refine wa_lsub ?_
        refine wa_topl (fun v18 hv18 => ?_)
        have tv18 := s_l_remU hv18
        clear hv18
        refine wa_goto o_X12_takesCase_38 (by decide) ?_
        refine wa_Vv (d9 := d - 1) [.long _] [] (sp_X12_clearHere G (d := d - 1) (by omega) σ _) (rfl) rfl rfl (zr (by omega)) mk_X12_clearHere ly_84 ml_12_771 (Nat.le_of_ble_eq_true rfl) (fun s19 hs19 => ?_)
        obtain ⟨fs19, -⟩ := hs19
        have Fs19 : Fm [86, 87, 88, 89, 90, 91, 92, 147] [101, 102, 187, 192] σ s19 := Fm.tr (Fm.rf [86, 87, 88, 89, 90, 91, 92, 147] [101, 102, 187, 192] σ) (Fm.wd fs19 rfl rfl)
        refine wa_aload_n (i := 0) rfl rfl ?_
        refine wa_getr ck_12 fl_12_262 ly_84 rf_84_100 ?_
        refine wa_iload rfl ?_
        refine wa_lconst (v := 1) (by decide) ?_
        refine wa_last ly_147 (by ((try simp only [vp_in_iff, Int32.lt_iff_toInt_lt, Int32.le_iff_toInt_le, ← Int32.toInt_inj, Int32.reduceToInt, n_1, n_2, n_8, Int32.toNatClampNeg, Int64.lt_iff_toInt_lt, Int64.le_iff_toInt_le, ← Int64.toInt_inj, Int64.reduceToInt, Int32.toInt_toInt64, lg_cmp_ge, lg_cmp_le, lg_cmp_gt, lg_cmp_lt, lg_cmp_eq, Bool.false_eq_true, Bool.true_eq_false, reduceCtorEq, false_iff, true_iff, iff_true, iff_false, and_true, true_and, and_false, false_and, reduceIte, ite_true, ite_false, eq_self] at *)) <;> omega) (fun s21 hs21 => ?_)
        have Fs21 : Fm [86, 87, 88, 89, 90, 91, 92, 147] [101, 102, 187, 192] σ s21 := by rw [hs21]; exact Fm.sl Fs19 rfl
        refine wa_aload_n (i := 0) rfl rfl ?_
        refine wa_Vi (d9 := d - 1) [] [] (sp_X12_addLine G (d := d - 1) (by omega) s21 ) (rfl) rfl rfl (zr (by omega)) mk_X12_addLine ly_84 ml_12_1261 (Nat.le_of_ble_eq_true rfl) (fun x23 s22 hs22 => ?_)
        obtain ⟨bx23, ex23, fs22, -⟩ := pB hs22
        subst ex23
        have Fs22 : Fm [86, 87, 88, 89, 90, 91, 92, 147] [101, 102, 187, 192] σ s22 := Fm.tr Fs21 (Fm.wd fs22 rfl rfl)
        refine wa_if_ne o_X12_takesCase_58 (by decide) (fun h24 => ?_) (fun h24 => ?_)
        · replace h24 := bI_t (b := bx23) (rfl) h24
          refine wa_aload_n (i := 0) rfl rfl ?_
          refine wa_getr ck_12 fl_12_444 ly_84 rf_84_188 ?_
          refine wa_aload_n (i := 0) rfl rfl ?_
          refine wa_geti ck_12 fl_12_1250 ly_84 ?_
          refine wa_rw ((Fm.gi fs22 (q := 84) (k := 192) rfl rfl).trans ((nx_gi_sl hs21).trans (Fm.gi fs19 (q := 84) (k := 192) rfl rfl))) ?_
          refine wa_iload rfl ?_
          refine wa_iast ly_89 (by ((try simp only [vp_in_iff, Int32.lt_iff_toInt_lt, Int32.le_iff_toInt_le, ← Int32.toInt_inj, Int32.reduceToInt, n_1, n_2, n_8, Int32.toNatClampNeg, Int64.lt_iff_toInt_lt, Int64.le_iff_toInt_le, ← Int64.toInt_inj, Int64.reduceToInt, Int32.toInt_toInt64, lg_cmp_ge, lg_cmp_le, lg_cmp_gt, lg_cmp_lt, lg_cmp_eq, Bool.false_eq_true, Bool.true_eq_false, reduceCtorEq, false_iff, true_iff, iff_true, iff_false, and_true, true_and, and_false, false_and, reduceIte, ite_true, ite_false, eq_self] at *)) <;> omega) (fun s25 hs25 => ?_)
          have Fs25 : Fm [86, 87, 88, 89, 90, 91, 92, 147] [101, 102, 187, 192] σ s25 := by rw [hs25]; exact Fm.si Fs22 rfl
          refine wa_aload_n (i := 0) rfl rfl ?_
          refine wa_getr ck_12 fl_12_447 ly_84 rf_84_189 ?_
          refine wa_aload_n (i := 0) rfl rfl ?_
          refine wa_geti ck_12 fl_12_1250 ly_84 ?_
          refine wa_rw ((nxq_gi_si hs25 (by decide)).trans ((Fm.gi fs22 (q := 84) (k := 192) rfl rfl).trans ((nx_gi_sl hs21).trans (Fm.gi fs19 (q := 84) (k := 192) rfl rfl)))) ?_
          refine wa_aload_n (i := 0) rfl rfl ?_
          refine wa_getl ck_12 fl_12_736 ly_84 ?_
          refine wa_rwl ((nx_gl_si hs25).trans ((Fm.gl fs22 (q := 84) (k := 101) rfl rfl).trans (nxq_gl_sl hs21 (by decide)))) ?_
          refine wa_last ly_88 (by ((try simp only [vp_in_iff, Int32.lt_iff_toInt_lt, Int32.le_iff_toInt_le, ← Int32.toInt_inj, Int32.reduceToInt, n_1, n_2, n_8, Int32.toNatClampNeg, Int64.lt_iff_toInt_lt, Int64.le_iff_toInt_le, ← Int64.toInt_inj, Int64.reduceToInt, Int32.toInt_toInt64, lg_cmp_ge, lg_cmp_le, lg_cmp_gt, lg_cmp_lt, lg_cmp_eq, Bool.false_eq_true, Bool.true_eq_false, reduceCtorEq, false_iff, true_iff, iff_true, iff_false, and_true, true_and, and_false, false_and, reduceIte, ite_true, ite_false, eq_self] at *)) <;> omega) (fun s26 hs26 => ?_)
          have Fs26 : Fm [86, 87, 88, 89, 90, 91, 92, 147] [101, 102, 187, 192] σ s26 := by rw [hs26]; exact Fm.sl Fs25 rfl
          refine wa_aload_n (i := 0) rfl rfl ?_
          refine wa_getr ck_12 fl_12_450 ly_84 rf_84_190 ?_
          refine wa_aload_n (i := 0) rfl rfl ?_
          refine wa_geti ck_12 fl_12_1250 ly_84 ?_
          refine wa_rw ((nx_gi_sl hs26).trans ((nxq_gi_si hs25 (by decide)).trans ((Fm.gi fs22 (q := 84) (k := 192) rfl rfl).trans ((nx_gi_sl hs21).trans (Fm.gi fs19 (q := 84) (k := 192) rfl rfl))))) ?_
          refine wa_aload_n (i := 0) rfl rfl ?_
          refine wa_geti ck_12 fl_12_1247 ly_84 ?_
          refine wa_rw ((nx_gi_sl hs26).trans (nxq_gi_si hs25 (by decide))) ?_
          refine wa_iast ly_87 (by ((try simp only [vp_in_iff, Int32.lt_iff_toInt_lt, Int32.le_iff_toInt_le, ← Int32.toInt_inj, Int32.reduceToInt, n_1, n_2, n_8, Int32.toNatClampNeg, Int64.lt_iff_toInt_lt, Int64.le_iff_toInt_le, ← Int64.toInt_inj, Int64.reduceToInt, Int32.toInt_toInt64, lg_cmp_ge, lg_cmp_le, lg_cmp_gt, lg_cmp_lt, lg_cmp_eq, Bool.false_eq_true, Bool.true_eq_false, reduceCtorEq, false_iff, true_iff, iff_true, iff_false, and_true, true_and, and_false, false_and, reduceIte, ite_true, ite_false, eq_self] at *)) <;> omega) (fun s27 hs27 => ?_)
          have Fs27 : Fm [86, 87, 88, 89, 90, 91, 92, 147] [101, 102, 187, 192] σ s27 := by rw [hs27]; exact Fm.si Fs26 rfl
          refine wa_aload_n (i := 0) rfl rfl ?_
          refine wa_getr ck_12 fl_12_453 ly_84 rf_84_191 ?_
          refine wa_aload_n (i := 0) rfl rfl ?_
          refine wa_geti ck_12 fl_12_1250 ly_84 ?_
          refine wa_rw ((nxq_gi_si hs27 (by decide)).trans ((nx_gi_sl hs26).trans ((nxq_gi_si hs25 (by decide)).trans ((Fm.gi fs22 (q := 84) (k := 192) rfl rfl).trans ((nx_gi_sl hs21).trans (Fm.gi fs19 (q := 84) (k := 192) rfl rfl)))))) ?_
          refine wa_iconst (v := 0) (by decide) ?_
          refine wa_zast false (rfl) ly_86 (by ((try simp only [vp_in_iff, Int32.lt_iff_toInt_lt, Int32.le_iff_toInt_le, ← Int32.toInt_inj, Int32.reduceToInt, n_1, n_2, n_8, Int32.toNatClampNeg, Int64.lt_iff_toInt_lt, Int64.le_iff_toInt_le, ← Int64.toInt_inj, Int64.reduceToInt, Int32.toInt_toInt64, lg_cmp_ge, lg_cmp_le, lg_cmp_gt, lg_cmp_lt, lg_cmp_eq, Bool.false_eq_true, Bool.true_eq_false, reduceCtorEq, false_iff, true_iff, iff_true, iff_false, and_true, true_and, and_false, false_and, reduceIte, ite_true, ite_false, eq_self] at *)) <;> omega) (fun s28 hs28 => ?_)
          have Fs28 : Fm [86, 87, 88, 89, 90, 91, 92, 147] [101, 102, 187, 192] σ s28 := by rw [hs28]; exact Fm.sb Fs27 rfl
          refine wa_aload_n (i := 0) rfl rfl ?_
          refine wa_dup rfl ?_
          refine wa_geti ck_12 fl_12_1250 ly_84 ?_
          refine wa_rw ((nx_gi_sb hs28).trans ((nxq_gi_si hs27 (by decide)).trans ((nx_gi_sl hs26).trans ((nxq_gi_si hs25 (by decide)).trans ((Fm.gi fs22 (q := 84) (k := 192) rfl rfl).trans ((nx_gi_sl hs21).trans (Fm.gi fs19 (q := 84) (k := 192) rfl rfl))))))) ?_
          refine wa_iconst (v := 1) (by decide) ?_
          refine wa_iadd ?_
          refine wa_top (fun v29 hv29 => ?_)
          have tv29 := i_addT hv29
          clear hv29
          refine wa_puti ck_12 fl_12_1250 ly_84 (fun s30 hs30 => ?_)
          have Fs30 : Fm [86, 87, 88, 89, 90, 91, 92, 147] [101, 102, 187, 192] σ s30 := by rw [hs30]; exact Fm.si Fs28 rfl
          refine wa_iconst (v := 1) (by decide) ?_
          refine wa_zreturn true (rfl) rfl rfl ?_
          exact ⟨_, rfl, Fs30, trivial⟩
        · replace h24 := bI_f (b := bx23) (rfl) h24
          refine wa_iconst (v := 0) (by decide) ?_
          refine wa_zreturn false (rfl) rfl rfl ?_
          exact ⟨_, rfl, Fs22, trivial⟩
    · refine wa_iconst (v := 0) (by decide) ?_
      refine wa_zreturn false (rfl) rfl rfl ?_
      exact ⟨_, rfl, (Fm.rf [86, 87, 88, 89, 90, 91, 92, 147] [101, 102, 187, 192] σ), trivial⟩
set_option maxHeartbeats 4000000 in
theorem sp_X12_takesElse (G : kG9) {d : Nat} (hd : 2 ≤ d) (σ : St) : Ct G M_X12_takesElse d [.ref 84] σ (fun r σ' => ∃ x : Bool, r = some (.int (bI x)) ∧ Fm [86, 87, 90, 91, 92, 147] [101, 102, 187] σ σ' ∧ True) := by
  refine wa_start (by decide) rfl (Nat.le_of_ble_eq_true rfl) (lv := [(0, .ref 84)]) rfl o_X12_takesElse_0 rfl ?_
  refine wa_aload_n (i := 0) rfl rfl ?_
  refine wa_geti ck_12 fl_12_1250 ly_84 ?_
  refine wa_iconst (v := 1) (by decide) ?_
  refine wa_isub ?_
  refine wa_top (fun v1 hv1 => ?_)
  have tv1 := i_subT hv1
  clear hv1
  refine wa_istore_nD (lv' := [(1, .int v1), (0, .ref 84)]) (i := 1) rfl (by decide) rfl ?_
  refine wa_aload_n (i := 0) rfl rfl ?_
  refine wa_Vi (d9 := d - 1) [] [] (sp_X12_isEnded G (d := d - 1) (by omega) σ ) (rfl) rfl rfl (zr (by omega)) mk_X12_isEnded ly_84 ml_12_1267 (Nat.le_of_ble_eq_true rfl) (fun x3 s2 hs2 => ?_)
  obtain ⟨bx3, ex3, zs2, -⟩ := pB hs2
  subst ex3
  subst zs2
  refine wa_if_eq o_X12_takesElse_33 (by decide) (fun h4 => ?_) (fun h4 => ?_)
  · replace h4 := bI_f (b := bx3) (rfl) h4
    refine wa_iconst (v := 0) (by decide) ?_
    refine wa_zreturn false (rfl) rfl rfl ?_
    exact ⟨_, rfl, (Fm.rf [86, 87, 90, 91, 92, 147] [101, 102, 187] σ), trivial⟩
  · replace h4 := bI_t (b := bx3) (rfl) h4
    refine wa_aload_n (i := 0) rfl rfl ?_
    refine wa_getr ck_12 fl_12_453 ly_84 rf_84_191 ?_
    refine wa_iload_n (i := 1) rfl rfl ?_
    refine wa_zald ly_86 (by ((try simp only [vp_in_iff, Int32.lt_iff_toInt_lt, Int32.le_iff_toInt_le, ← Int32.toInt_inj, Int32.reduceToInt, n_1, n_2, n_8, Int32.toNatClampNeg, Int64.lt_iff_toInt_lt, Int64.le_iff_toInt_le, ← Int64.toInt_inj, Int64.reduceToInt, Int32.toInt_toInt64, lg_cmp_ge, lg_cmp_le, lg_cmp_gt, lg_cmp_lt, lg_cmp_eq, Bool.false_eq_true, Bool.true_eq_false, reduceCtorEq, false_iff, true_iff, iff_true, iff_false, and_true, true_and, and_false, false_and, reduceIte, ite_true, ite_false, eq_self] at *)) <;> omega) ?_
    refine wa_if_ne o_X12_takesElse_33 (by decide) (fun h5 => ?_) (fun h5 => ?_)
    · replace h5 := bI_t (b := (gb σ 86 (v1).toNatClampNeg)) (rfl) h5
      refine wa_iconst (v := 0) (by decide) ?_
      refine wa_zreturn false (rfl) rfl rfl ?_
      exact ⟨_, rfl, (Fm.rf [86, 87, 90, 91, 92, 147] [101, 102, 187] σ), trivial⟩
    · replace h5 := bI_f (b := (gb σ 86 (v1).toNatClampNeg)) (rfl) h5
      refine wa_aload_n (i := 0) rfl rfl ?_
      refine wa_geti ck_12 fl_12_1247 ly_84 ?_
      refine wa_sipush (v := 200) (by decide) ?_
      refine wa_icmp_ne o_X12_takesElse_35 (by decide) (fun h6 => ?_) (fun h6 => ?_)
      · refine wa_aload_n (i := 0) rfl rfl ?_
        refine wa_aload_n (i := 0) rfl rfl ?_
        refine wa_getr ck_12 fl_12_450 ly_84 rf_84_190 ?_
        refine wa_iload_n (i := 1) rfl rfl ?_
        refine wa_iald ly_87 (by ((try simp only [vp_in_iff, Int32.lt_iff_toInt_lt, Int32.le_iff_toInt_le, ← Int32.toInt_inj, Int32.reduceToInt, n_1, n_2, n_8, Int32.toNatClampNeg, Int64.lt_iff_toInt_lt, Int64.le_iff_toInt_le, ← Int64.toInt_inj, Int64.reduceToInt, Int32.toInt_toInt64, lg_cmp_ge, lg_cmp_le, lg_cmp_gt, lg_cmp_lt, lg_cmp_eq, Bool.false_eq_true, Bool.true_eq_false, reduceCtorEq, false_iff, true_iff, iff_true, iff_false, and_true, true_and, and_false, false_and, reduceIte, ite_true, ite_false, eq_self] at *)) <;> omega) ?_
        refine wa_Vv (d9 := d - 1) [.int _] [] (sp_X12_forget G (d := d - 1) (by omega) σ _) (rfl) rfl rfl (zr (by omega)) mk_X12_forget ly_84 ml_12_1270 (Nat.le_of_ble_eq_true rfl) (fun s7 hs7 => ?_)
        obtain ⟨fs7, -⟩ := hs7
        have Fs7 : Fm [86, 87, 90, 91, 92, 147] [101, 102, 187] σ s7 := Fm.tr (Fm.rf [86, 87, 90, 91, 92, 147] [101, 102, 187] σ) (Fm.wd fs7 rfl rfl)
        refine wa_aload_n (i := 0) rfl rfl ?_
        refine wa_lconst (v := 0) (by decide) ?_
        refine wa_aload_n (i := 0) rfl rfl ?_
        refine wa_getr ck_12 fl_12_447 ly_84 rf_84_189 ?_
        refine wa_iload_n (i := 1) rfl rfl ?_
        refine wa_lald ly_88 (by ((try simp only [vp_in_iff, Int32.lt_iff_toInt_lt, Int32.le_iff_toInt_le, ← Int32.toInt_inj, Int32.reduceToInt, n_1, n_2, n_8, Int32.toNatClampNeg, Int64.lt_iff_toInt_lt, Int64.le_iff_toInt_le, ← Int64.toInt_inj, Int64.reduceToInt, Int32.toInt_toInt64, lg_cmp_ge, lg_cmp_le, lg_cmp_gt, lg_cmp_lt, lg_cmp_eq, Bool.false_eq_true, Bool.true_eq_false, reduceCtorEq, false_iff, true_iff, iff_true, iff_false, and_true, true_and, and_false, false_and, reduceIte, ite_true, ite_false, eq_self] at *)) <;> omega) ?_
        refine wa_lsub ?_
        refine wa_topl (fun v9 hv9 => ?_)
        have tv9 := s_l_remU hv9
        clear hv9
        refine wa_lconst (v := 1) (by decide) ?_
        refine wa_lsub ?_
        refine wa_topl (fun v10 hv10 => ?_)
        have tv10 := s_l_remU hv10
        clear hv10
        refine wa_Vv (d9 := d - 1) [.long _] [] (sp_X12_clearHere G (d := d - 1) (by omega) s7 _) (rfl) rfl rfl (zr (by omega)) mk_X12_clearHere ly_84 ml_12_771 (Nat.le_of_ble_eq_true rfl) (fun s11 hs11 => ?_)
        obtain ⟨fs11, -⟩ := hs11
        have Fs11 : Fm [86, 87, 90, 91, 92, 147] [101, 102, 187] σ s11 := Fm.tr Fs7 (Fm.wd fs11 rfl rfl)
        refine wa_aload_n (i := 0) rfl rfl ?_
        refine wa_getr ck_12 fl_12_262 ly_84 rf_84_100 ?_
        refine wa_aload_n (i := 0) rfl rfl ?_
        refine wa_getr ck_12 fl_12_444 ly_84 rf_84_188 ?_
        refine wa_iload_n (i := 1) rfl rfl ?_
        refine wa_iald ly_89 (by ((try simp only [vp_in_iff, Int32.lt_iff_toInt_lt, Int32.le_iff_toInt_le, ← Int32.toInt_inj, Int32.reduceToInt, n_1, n_2, n_8, Int32.toNatClampNeg, Int64.lt_iff_toInt_lt, Int64.le_iff_toInt_le, ← Int64.toInt_inj, Int64.reduceToInt, Int32.toInt_toInt64, lg_cmp_ge, lg_cmp_le, lg_cmp_gt, lg_cmp_lt, lg_cmp_eq, Bool.false_eq_true, Bool.true_eq_false, reduceCtorEq, false_iff, true_iff, iff_true, iff_false, and_true, true_and, and_false, false_and, reduceIte, ite_true, ite_false, eq_self] at *)) <;> omega) ?_
        refine wa_ldc2 (v := (-1)) (allW_in (kT_12 _ (List.mem_of_getElem? (i := 97) rfl)) rfl) ?_
        refine wa_last ly_147 (by ((try simp only [vp_in_iff, Int32.lt_iff_toInt_lt, Int32.le_iff_toInt_le, ← Int32.toInt_inj, Int32.reduceToInt, n_1, n_2, n_8, Int32.toNatClampNeg, Int64.lt_iff_toInt_lt, Int64.le_iff_toInt_le, ← Int64.toInt_inj, Int64.reduceToInt, Int32.toInt_toInt64, lg_cmp_ge, lg_cmp_le, lg_cmp_gt, lg_cmp_lt, lg_cmp_eq, Bool.false_eq_true, Bool.true_eq_false, reduceCtorEq, false_iff, true_iff, iff_true, iff_false, and_true, true_and, and_false, false_and, reduceIte, ite_true, ite_false, eq_self] at *)) <;> omega) (fun s13 hs13 => ?_)
        have Fs13 : Fm [86, 87, 90, 91, 92, 147] [101, 102, 187] σ s13 := by rw [hs13]; exact Fm.sl Fs11 rfl
        refine wa_aload_n (i := 0) rfl rfl ?_
        refine wa_Vi (d9 := d - 1) [] [] (sp_X12_addLine G (d := d - 1) (by omega) s13 ) (rfl) rfl rfl (zr (by omega)) mk_X12_addLine ly_84 ml_12_1261 (Nat.le_of_ble_eq_true rfl) (fun x15 s14 hs14 => ?_)
        obtain ⟨bx15, ex15, fs14, -⟩ := pB hs14
        subst ex15
        have Fs14 : Fm [86, 87, 90, 91, 92, 147] [101, 102, 187] σ s14 := Fm.tr Fs13 (Fm.wd fs14 rfl rfl)
        refine wa_istore_nD (lv' := [(2, .int (bI bx15)), (1, .int v1), (0, .ref 84)]) (i := 2) rfl (by decide) rfl ?_
        refine wa_aload_n (i := 0) rfl rfl ?_
        refine wa_getr ck_12 fl_12_450 ly_84 rf_84_190 ?_
        refine wa_iload_n (i := 1) rfl rfl ?_
        refine wa_aload_n (i := 0) rfl rfl ?_
        refine wa_geti ck_12 fl_12_1247 ly_84 ?_
        refine wa_iast ly_87 (by ((try simp only [vp_in_iff, Int32.lt_iff_toInt_lt, Int32.le_iff_toInt_le, ← Int32.toInt_inj, Int32.reduceToInt, n_1, n_2, n_8, Int32.toNatClampNeg, Int64.lt_iff_toInt_lt, Int64.le_iff_toInt_le, ← Int64.toInt_inj, Int64.reduceToInt, Int32.toInt_toInt64, lg_cmp_ge, lg_cmp_le, lg_cmp_gt, lg_cmp_lt, lg_cmp_eq, Bool.false_eq_true, Bool.true_eq_false, reduceCtorEq, false_iff, true_iff, iff_true, iff_false, and_true, true_and, and_false, false_and, reduceIte, ite_true, ite_false, eq_self] at *)) <;> omega) (fun s16 hs16 => ?_)
        have Fs16 : Fm [86, 87, 90, 91, 92, 147] [101, 102, 187] σ s16 := by rw [hs16]; exact Fm.si Fs14 rfl
        refine wa_aload_n (i := 0) rfl rfl ?_
        refine wa_getr ck_12 fl_12_453 ly_84 rf_84_191 ?_
        refine wa_iload_n (i := 1) rfl rfl ?_
        refine wa_iconst (v := 1) (by decide) ?_
        refine wa_zast true (rfl) ly_86 (by ((try simp only [vp_in_iff, Int32.lt_iff_toInt_lt, Int32.le_iff_toInt_le, ← Int32.toInt_inj, Int32.reduceToInt, n_1, n_2, n_8, Int32.toNatClampNeg, Int64.lt_iff_toInt_lt, Int64.le_iff_toInt_le, ← Int64.toInt_inj, Int64.reduceToInt, Int32.toInt_toInt64, lg_cmp_ge, lg_cmp_le, lg_cmp_gt, lg_cmp_lt, lg_cmp_eq, Bool.false_eq_true, Bool.true_eq_false, reduceCtorEq, false_iff, true_iff, iff_true, iff_false, and_true, true_and, and_false, false_and, reduceIte, ite_true, ite_false, eq_self] at *)) <;> omega) (fun s17 hs17 => ?_)
        have Fs17 : Fm [86, 87, 90, 91, 92, 147] [101, 102, 187] σ s17 := by rw [hs17]; exact Fm.sb Fs16 rfl
        refine wa_iload_n (i := 2) rfl rfl ?_
        refine wa_zreturn bx15 (rfl) rfl rfl ?_
        exact ⟨_, rfl, Fs17, trivial⟩
      · refine wa_iconst (v := 0) (by decide) ?_
        refine wa_zreturn false (rfl) rfl rfl ?_
        exact ⟨_, rfl, (Fm.rf [86, 87, 90, 91, 92, 147] [101, 102, 187] σ), trivial⟩
set_option maxHeartbeats 4000000 in
theorem sp_X12_takesDone (G : kG9) {d : Nat} (hd : 2 ≤ d) (σ : St) : Ct G M_X12_takesDone d [.ref 84] σ (fun r σ' => ∃ x : Bool, r = some (.int (bI x)) ∧ Fm [90, 91, 92, 147] [101, 102, 187, 192] σ σ' ∧ True) := by
  refine wa_start (by decide) rfl (Nat.le_of_ble_eq_true rfl) (lv := [(0, .ref 84)]) rfl o_X12_takesDone_0 rfl ?_
  refine wa_aload_n (i := 0) rfl rfl ?_
  refine wa_geti ck_12 fl_12_1250 ly_84 ?_
  refine wa_iconst (v := 1) (by decide) ?_
  refine wa_isub ?_
  refine wa_top (fun v1 hv1 => ?_)
  have tv1 := i_subT hv1
  clear hv1
  refine wa_istore_nD (lv' := [(1, .int v1), (0, .ref 84)]) (i := 1) rfl (by decide) rfl ?_
  refine wa_aload_n (i := 0) rfl rfl ?_
  refine wa_Vi (d9 := d - 1) [] [] (sp_X12_isEnded G (d := d - 1) (by omega) σ ) (rfl) rfl rfl (zr (by omega)) mk_X12_isEnded ly_84 ml_12_1267 (Nat.le_of_ble_eq_true rfl) (fun x3 s2 hs2 => ?_)
  obtain ⟨bx3, ex3, zs2, -⟩ := pB hs2
  subst ex3
  subst zs2
  refine wa_if_eq o_X12_takesDone_33 (by decide) (fun h4 => ?_) (fun h4 => ?_)
  · replace h4 := bI_f (b := bx3) (rfl) h4
    refine wa_iconst (v := 0) (by decide) ?_
    refine wa_zreturn false (rfl) rfl rfl ?_
    exact ⟨_, rfl, (Fm.rf [90, 91, 92, 147] [101, 102, 187, 192] σ), trivial⟩
  · replace h4 := bI_t (b := bx3) (rfl) h4
    refine wa_aload_n (i := 0) rfl rfl ?_
    refine wa_getr ck_12 fl_12_453 ly_84 rf_84_191 ?_
    refine wa_iload_n (i := 1) rfl rfl ?_
    refine wa_zald ly_86 (by ((try simp only [vp_in_iff, Int32.lt_iff_toInt_lt, Int32.le_iff_toInt_le, ← Int32.toInt_inj, Int32.reduceToInt, n_1, n_2, n_8, Int32.toNatClampNeg, Int64.lt_iff_toInt_lt, Int64.le_iff_toInt_le, ← Int64.toInt_inj, Int64.reduceToInt, Int32.toInt_toInt64, lg_cmp_ge, lg_cmp_le, lg_cmp_gt, lg_cmp_lt, lg_cmp_eq, Bool.false_eq_true, Bool.true_eq_false, reduceCtorEq, false_iff, true_iff, iff_true, iff_false, and_true, true_and, and_false, false_and, reduceIte, ite_true, ite_false, eq_self] at *)) <;> omega) ?_
    refine wa_if_eq o_X12_takesDone_33 (by decide) (fun h5 => ?_) (fun h5 => ?_)
    · replace h5 := bI_f (b := (gb σ 86 (v1).toNatClampNeg)) (rfl) h5
      refine wa_iconst (v := 0) (by decide) ?_
      refine wa_zreturn false (rfl) rfl rfl ?_
      exact ⟨_, rfl, (Fm.rf [90, 91, 92, 147] [101, 102, 187, 192] σ), trivial⟩
    · replace h5 := bI_t (b := (gb σ 86 (v1).toNatClampNeg)) (rfl) h5
      refine wa_aload_n (i := 0) rfl rfl ?_
      refine wa_geti ck_12 fl_12_1247 ly_84 ?_
      refine wa_sipush (v := 200) (by decide) ?_
      refine wa_icmp_ne o_X12_takesDone_35 (by decide) (fun h6 => ?_) (fun h6 => ?_)
      · refine wa_aload_n (i := 0) rfl rfl ?_
        refine wa_aload_n (i := 0) rfl rfl ?_
        refine wa_getr ck_12 fl_12_450 ly_84 rf_84_190 ?_
        refine wa_iload_n (i := 1) rfl rfl ?_
        refine wa_iald ly_87 (by ((try simp only [vp_in_iff, Int32.lt_iff_toInt_lt, Int32.le_iff_toInt_le, ← Int32.toInt_inj, Int32.reduceToInt, n_1, n_2, n_8, Int32.toNatClampNeg, Int64.lt_iff_toInt_lt, Int64.le_iff_toInt_le, ← Int64.toInt_inj, Int64.reduceToInt, Int32.toInt_toInt64, lg_cmp_ge, lg_cmp_le, lg_cmp_gt, lg_cmp_lt, lg_cmp_eq, Bool.false_eq_true, Bool.true_eq_false, reduceCtorEq, false_iff, true_iff, iff_true, iff_false, and_true, true_and, and_false, false_and, reduceIte, ite_true, ite_false, eq_self] at *)) <;> omega) ?_
        refine wa_Vv (d9 := d - 1) [.int _] [] (sp_X12_forget G (d := d - 1) (by omega) σ _) (rfl) rfl rfl (zr (by omega)) mk_X12_forget ly_84 ml_12_1270 (Nat.le_of_ble_eq_true rfl) (fun s7 hs7 => ?_)
        obtain ⟨fs7, -⟩ := hs7
        have Fs7 : Fm [90, 91, 92, 147] [101, 102, 187, 192] σ s7 := Fm.tr (Fm.rf [90, 91, 92, 147] [101, 102, 187, 192] σ) (Fm.wd fs7 rfl rfl)
        refine wa_aload_n (i := 0) rfl rfl ?_
        refine wa_ldc2 (v := (-1)) (allW_in (kT_12 _ (List.mem_of_getElem? (i := 97) rfl)) rfl) ?_
        refine wa_Vv (d9 := d - 1) [.long _] [] (sp_X12_clearHere G (d := d - 1) (by omega) s7 _) (rfl) rfl rfl (zr (by omega)) mk_X12_clearHere ly_84 ml_12_771 (Nat.le_of_ble_eq_true rfl) (fun s9 hs9 => ?_)
        obtain ⟨fs9, -⟩ := hs9
        have Fs9 : Fm [90, 91, 92, 147] [101, 102, 187, 192] σ s9 := Fm.tr Fs7 (Fm.wd fs9 rfl rfl)
        refine wa_aload_n (i := 0) rfl rfl ?_
        refine wa_dup rfl ?_
        refine wa_geti ck_12 fl_12_1250 ly_84 ?_
        refine wa_rw ((Fm.gi fs9 (q := 84) (k := 192) rfl rfl).trans (Fm.gi fs7 (q := 84) (k := 192) rfl rfl)) ?_
        refine wa_iconst (v := 1) (by decide) ?_
        refine wa_isub ?_
        refine wa_top (fun v11 hv11 => ?_)
        have tv11 := i_subT hv11
        clear hv11
        refine wa_puti ck_12 fl_12_1250 ly_84 (fun s12 hs12 => ?_)
        have Fs12 : Fm [90, 91, 92, 147] [101, 102, 187, 192] σ s12 := by rw [hs12]; exact Fm.si Fs9 rfl
        refine wa_aload_n (i := 0) rfl rfl ?_
        refine wa_Vi (d9 := d - 1) [] [] (sp_X12_addLine G (d := d - 1) (by omega) s12 ) (rfl) rfl rfl (zr (by omega)) mk_X12_addLine ly_84 ml_12_1261 (Nat.le_of_ble_eq_true rfl) (fun x14 s13 hs13 => ?_)
        obtain ⟨bx14, ex14, fs13, -⟩ := pB hs13
        subst ex14
        have Fs13 : Fm [90, 91, 92, 147] [101, 102, 187, 192] σ s13 := Fm.tr Fs12 (Fm.wd fs13 rfl rfl)
        refine wa_zreturn bx14 (rfl) rfl rfl ?_
        exact ⟨_, rfl, Fs13, trivial⟩
      · refine wa_iconst (v := 0) (by decide) ?_
        refine wa_zreturn false (rfl) rfl rfl ?_
        exact ⟨_, rfl, (Fm.rf [90, 91, 92, 147] [101, 102, 187, 192] σ), trivial⟩
set_option maxHeartbeats 4000000 in
theorem sp_X12_doesProofLine (G : kG9) {d : Nat} (hd : 6 ≤ d) (σ : St) (a0 : Int32) (r1 : 0 ≤ (gi σ 84 12).toInt ∧ (gi σ 84 12).toInt ≤ 2000) (A_156 : AR ap_156 σ 156) (A_158 : AR ap_158 σ 158) (A_159 : AR ap_159 σ 159) (A_202 : AR ap_202 σ 202) : Ct G M_X12_doesProofLine d [.ref 84, .int a0] σ (fun r σ' => ∃ x : Bool, r = some (.int (bI x)) ∧ Fm [86, 87, 88, 89, 90, 91, 92, 147] [101, 102, 187, 192] σ σ' ∧ True) := by
  refine wa_start (by decide) rfl (Nat.le_of_ble_eq_true rfl) (lv := [(0, .ref 84), (1, .int a0)]) rfl o_X12_doesProofLine_0 rfl ?_
  have ua0 := Int32.toInt_lt a0
  have wa0 := Int32.le_toInt a0
  refine wa_aload_n (i := 0) rfl rfl ?_
  refine wa_getr ck_12 fl_12_90 ly_84 rf_84_26 ?_
  refine wa_iload_n (i := 1) rfl rfl ?_
  refine wa_iconst (v := 1) (by decide) ?_
  refine wa_iadd ?_
  refine wa_top (fun v1 hv1 => ?_)
  have tv1 := i_addT hv1
  clear hv1
  refine wa_iald ly_204 (by ((try simp only [vp_in_iff, Int32.lt_iff_toInt_lt, Int32.le_iff_toInt_le, ← Int32.toInt_inj, Int32.reduceToInt, n_1, n_2, n_8, Int32.toNatClampNeg, Int64.lt_iff_toInt_lt, Int64.le_iff_toInt_le, ← Int64.toInt_inj, Int64.reduceToInt, Int32.toInt_toInt64, lg_cmp_ge, lg_cmp_le, lg_cmp_gt, lg_cmp_lt, lg_cmp_eq, Bool.false_eq_true, Bool.true_eq_false, reduceCtorEq, false_iff, true_iff, iff_true, iff_false, and_true, true_and, and_false, false_and, reduceIte, ite_true, ite_false, eq_self] at *)) <;> omega) ?_
  refine wa_istore_nD (lv' := [(2, .int (gi σ 204 (v1).toNatClampNeg)), (0, .ref 84), (1, .int a0)]) (i := 2) rfl (by decide) rfl ?_
  refine wa_aload_n (i := 0) rfl rfl ?_
  refine wa_iload_n (i := 1) rfl rfl ?_
  refine wa_Vi (d9 := d - 1) [.int _] [] (sp_X12_proofWord G (d := d - 1) (by omega) σ _ (by first | assumption | exact Or.inl rfl | exact Or.inr rfl | (((try simp only [vp_in_iff, Int32.lt_iff_toInt_lt, Int32.le_iff_toInt_le, ← Int32.toInt_inj, Int32.reduceToInt, n_1, n_2, n_8, Int32.toNatClampNeg, Int64.lt_iff_toInt_lt, Int64.le_iff_toInt_le, ← Int64.toInt_inj, Int64.reduceToInt, Int32.toInt_toInt64, lg_cmp_ge, lg_cmp_le, lg_cmp_gt, lg_cmp_lt, lg_cmp_eq, Bool.false_eq_true, Bool.true_eq_false, reduceCtorEq, false_iff, true_iff, iff_true, iff_false, and_true, true_and, and_false, false_and, reduceIte, ite_true, ite_false, eq_self] at *)) <;> omega))) (rfl) rfl rfl (zr (by omega)) mk_X12_proofWord ly_84 ml_12_1238 (Nat.le_of_ble_eq_true rfl) (fun x3 s2 hs2 => ?_)
  obtain ⟨zs2, -⟩ := pI hs2
  subst zs2
  refine wa_top (fun q4 hq4 => ?_)
  by_cases h5 : q4 = 1
  · refine wa_tIn (by rw [h5]; decide) (by rw [h5]; decide) (by rw [h5] <;> rfl) o_X12_doesProofLine_48 (by decide) ?_
    refine wa_aload_n (i := 0) rfl rfl ?_
    refine wa_iload_n (i := 1) rfl rfl ?_
    refine wa_iconst (v := 1) (by decide) ?_
    refine wa_iadd ?_
    refine wa_top (fun v6 hv6 => ?_)
    have tv6 := i_addT hv6
    clear hv6
    refine wa_aload_n (i := 0) rfl rfl ?_
    refine wa_getr ck_12 fl_12_90 ly_84 rf_84_26 ?_
    refine wa_iload_n (i := 1) rfl rfl ?_
    refine wa_iconst (v := 2) (by decide) ?_
    refine wa_iadd ?_
    refine wa_top (fun v7 hv7 => ?_)
    have tv7 := i_addT hv7
    clear hv7
    refine wa_iald ly_204 (by ((try simp only [vp_in_iff, Int32.lt_iff_toInt_lt, Int32.le_iff_toInt_le, ← Int32.toInt_inj, Int32.reduceToInt, n_1, n_2, n_8, Int32.toNatClampNeg, Int64.lt_iff_toInt_lt, Int64.le_iff_toInt_le, ← Int64.toInt_inj, Int64.reduceToInt, Int32.toInt_toInt64, lg_cmp_ge, lg_cmp_le, lg_cmp_gt, lg_cmp_lt, lg_cmp_eq, Bool.false_eq_true, Bool.true_eq_false, reduceCtorEq, false_iff, true_iff, iff_true, iff_false, and_true, true_and, and_false, false_and, reduceIte, ite_true, ite_false, eq_self] at *)) <;> omega) ?_
    refine wa_Vi (d9 := d - 1) [.int _, .int _] [] (sp_X12_takesAtom G (d := d - 1) (by omega) σ _ _ A_156 A_158 A_159 A_202) (rfl) rfl rfl (zr (by omega)) mk_X12_takesAtom ly_84 ml_12_1273 (Nat.le_of_ble_eq_true rfl) (fun x9 s8 hs8 => ?_)
    obtain ⟨bx9, ex9, fs8, -⟩ := pB hs8
    subst ex9
    have Fs8 : Fm [86, 87, 88, 89, 90, 91, 92, 147] [101, 102, 187, 192] σ s8 := Fm.tr (Fm.rf [86, 87, 88, 89, 90, 91, 92, 147] [101, 102, 187, 192] σ) (Fm.wd fs8 rfl rfl)
    refine wa_zreturn bx9 (rfl) rfl rfl ?_
    exact ⟨_, rfl, Fs8, trivial⟩
  ·
    by_cases h10 : q4 = 2
    · refine wa_tIn (by rw [h10]; decide) (by rw [h10]; decide) (by rw [h10] <;> rfl) o_X12_doesProofLine_64 (by decide) ?_
      refine wa_aload_n (i := 0) rfl rfl ?_
      refine wa_iload_n (i := 2) rfl rfl ?_
      refine wa_aload_n (i := 0) rfl rfl ?_
      refine wa_getr ck_12 fl_12_90 ly_84 rf_84_26 ?_
      refine wa_iload_n (i := 1) rfl rfl ?_
      refine wa_iconst (v := 2) (by decide) ?_
      refine wa_iadd ?_
      refine wa_top (fun v11 hv11 => ?_)
      have tv11 := i_addT hv11
      clear hv11
      refine wa_iald ly_204 (by ((try simp only [vp_in_iff, Int32.lt_iff_toInt_lt, Int32.le_iff_toInt_le, ← Int32.toInt_inj, Int32.reduceToInt, n_1, n_2, n_8, Int32.toNatClampNeg, Int64.lt_iff_toInt_lt, Int64.le_iff_toInt_le, ← Int64.toInt_inj, Int64.reduceToInt, Int32.toInt_toInt64, lg_cmp_ge, lg_cmp_le, lg_cmp_gt, lg_cmp_lt, lg_cmp_eq, Bool.false_eq_true, Bool.true_eq_false, reduceCtorEq, false_iff, true_iff, iff_true, iff_false, and_true, true_and, and_false, false_and, reduceIte, ite_true, ite_false, eq_self] at *)) <;> omega) ?_
      refine wa_aload_n (i := 0) rfl rfl ?_
      refine wa_getr ck_12 fl_12_90 ly_84 rf_84_26 ?_
      refine wa_iload_n (i := 1) rfl rfl ?_
      refine wa_iconst (v := 3) (by decide) ?_
      refine wa_iadd ?_
      refine wa_top (fun v12 hv12 => ?_)
      have tv12 := i_addT hv12
      clear hv12
      refine wa_iald ly_204 (by ((try simp only [vp_in_iff, Int32.lt_iff_toInt_lt, Int32.le_iff_toInt_le, ← Int32.toInt_inj, Int32.reduceToInt, n_1, n_2, n_8, Int32.toNatClampNeg, Int64.lt_iff_toInt_lt, Int64.le_iff_toInt_le, ← Int64.toInt_inj, Int64.reduceToInt, Int32.toInt_toInt64, lg_cmp_ge, lg_cmp_le, lg_cmp_gt, lg_cmp_lt, lg_cmp_eq, Bool.false_eq_true, Bool.true_eq_false, reduceCtorEq, false_iff, true_iff, iff_true, iff_false, and_true, true_and, and_false, false_and, reduceIte, ite_true, ite_false, eq_self] at *)) <;> omega) ?_
      refine wa_aload_n (i := 0) rfl rfl ?_
      refine wa_getr ck_12 fl_12_90 ly_84 rf_84_26 ?_
      refine wa_iload_n (i := 1) rfl rfl ?_
      refine wa_iconst (v := 4) (by decide) ?_
      refine wa_iadd ?_
      refine wa_top (fun v13 hv13 => ?_)
      have tv13 := i_addT hv13
      clear hv13
      refine wa_iald ly_204 (by ((try simp only [vp_in_iff, Int32.lt_iff_toInt_lt, Int32.le_iff_toInt_le, ← Int32.toInt_inj, Int32.reduceToInt, n_1, n_2, n_8, Int32.toNatClampNeg, Int64.lt_iff_toInt_lt, Int64.le_iff_toInt_le, ← Int64.toInt_inj, Int64.reduceToInt, Int32.toInt_toInt64, lg_cmp_ge, lg_cmp_le, lg_cmp_gt, lg_cmp_lt, lg_cmp_eq, Bool.false_eq_true, Bool.true_eq_false, reduceCtorEq, false_iff, true_iff, iff_true, iff_false, and_true, true_and, and_false, false_and, reduceIte, ite_true, ite_false, eq_self] at *)) <;> omega) ?_
      refine wa_Vi (d9 := d - 1) [.int _, .int _, .int _, .int _] [] (sp_X12_takesSum G (d := d - 1) (by omega) σ _ _ _ _) (rfl) rfl rfl (zr (by omega)) mk_X12_takesSum ly_84 ml_12_1276 (Nat.le_of_ble_eq_true rfl) (fun x15 s14 hs14 => ?_)
      obtain ⟨bx15, ex15, fs14, -⟩ := pB hs14
      subst ex15
      have Fs14 : Fm [86, 87, 88, 89, 90, 91, 92, 147] [101, 102, 187, 192] σ s14 := Fm.tr (Fm.rf [86, 87, 88, 89, 90, 91, 92, 147] [101, 102, 187, 192] σ) (Fm.wd fs14 rfl rfl)
      refine wa_zreturn bx15 (rfl) rfl rfl ?_
      exact ⟨_, rfl, Fs14, trivial⟩
    ·
      by_cases h16 : q4 = 3
      · refine wa_tIn (by rw [h16]; decide) (by rw [h16]; decide) (by rw [h16] <;> rfl) o_X12_doesProofLine_94 (by decide) ?_
        refine wa_aload_n (i := 0) rfl rfl ?_
        refine wa_iload_n (i := 2) rfl rfl ?_
        refine wa_aload_n (i := 0) rfl rfl ?_
        refine wa_getr ck_12 fl_12_90 ly_84 rf_84_26 ?_
        refine wa_iload_n (i := 1) rfl rfl ?_
        refine wa_iconst (v := 2) (by decide) ?_
        refine wa_iadd ?_
        refine wa_top (fun v17 hv17 => ?_)
        have tv17 := i_addT hv17
        clear hv17
        refine wa_iald ly_204 (by ((try simp only [vp_in_iff, Int32.lt_iff_toInt_lt, Int32.le_iff_toInt_le, ← Int32.toInt_inj, Int32.reduceToInt, n_1, n_2, n_8, Int32.toNatClampNeg, Int64.lt_iff_toInt_lt, Int64.le_iff_toInt_le, ← Int64.toInt_inj, Int64.reduceToInt, Int32.toInt_toInt64, lg_cmp_ge, lg_cmp_le, lg_cmp_gt, lg_cmp_lt, lg_cmp_eq, Bool.false_eq_true, Bool.true_eq_false, reduceCtorEq, false_iff, true_iff, iff_true, iff_false, and_true, true_and, and_false, false_and, reduceIte, ite_true, ite_false, eq_self] at *)) <;> omega) ?_
        refine wa_Vi (d9 := d - 1) [.int _, .int _] [] (sp_X12_takesCut G (d := d - 1) (by omega) σ _ _) (rfl) rfl rfl (zr (by omega)) mk_X12_takesCut ly_84 ml_12_1280 (Nat.le_of_ble_eq_true rfl) (fun x19 s18 hs18 => ?_)
        obtain ⟨bx19, ex19, fs18, -⟩ := pB hs18
        subst ex19
        have Fs18 : Fm [86, 87, 88, 89, 90, 91, 92, 147] [101, 102, 187, 192] σ s18 := Fm.tr (Fm.rf [86, 87, 88, 89, 90, 91, 92, 147] [101, 102, 187, 192] σ) (Fm.wd fs18 rfl rfl)
        refine wa_zreturn bx19 (rfl) rfl rfl ?_
        exact ⟨_, rfl, Fs18, trivial⟩
      ·
        by_cases h20 : q4 = 4
        · refine wa_tIn (by rw [h20]; decide) (by rw [h20]; decide) (by rw [h20] <;> rfl) o_X12_doesProofLine_108 (by decide) ?_
          refine wa_aload_n (i := 0) rfl rfl ?_
          refine wa_getr ck_12 fl_12_87 ly_84 rf_84_25 ?_
          refine wa_iload_n (i := 1) rfl rfl ?_
          refine wa_iconst (v := 2) (by decide) ?_
          refine wa_iadd ?_
          refine wa_top (fun v21 hv21 => ?_)
          have tv21 := i_addT hv21
          clear hv21
          refine wa_iald ly_205 (by ((try simp only [vp_in_iff, Int32.lt_iff_toInt_lt, Int32.le_iff_toInt_le, ← Int32.toInt_inj, Int32.reduceToInt, n_1, n_2, n_8, Int32.toNatClampNeg, Int64.lt_iff_toInt_lt, Int64.le_iff_toInt_le, ← Int64.toInt_inj, Int64.reduceToInt, Int32.toInt_toInt64, lg_cmp_ge, lg_cmp_le, lg_cmp_gt, lg_cmp_lt, lg_cmp_eq, Bool.false_eq_true, Bool.true_eq_false, reduceCtorEq, false_iff, true_iff, iff_true, iff_false, and_true, true_and, and_false, false_and, reduceIte, ite_true, ite_false, eq_self] at *)) <;> omega) ?_
          refine wa_iconst (v := 5) (by decide) ?_
          refine wa_icmp_ne o_X12_doesProofLine_124 (by decide) (fun h22 => ?_) (fun h22 => ?_)
          · refine wa_iconst (v := 0) (by decide) ?_
            refine wa_istore_nD (lv' := [(3, .int (bI false)), (2, .int (gi σ 204 (v1).toNatClampNeg)), (0, .ref 84), (1, .int a0)]) (i := 3) rfl (by decide) rfl ?_
            refine wa_aload_n (i := 0) rfl rfl ?_
            refine wa_iload_n (i := 1) rfl rfl ?_
            refine wa_iconst (v := 1) (by decide) ?_
            refine wa_iadd ?_
            refine wa_top (fun v23 hv23 => ?_)
            have tv23 := i_addT hv23
            clear hv23
            refine wa_iload_n (i := 3) rfl rfl ?_
            refine wa_aload_n (i := 0) rfl rfl ?_
            refine wa_getr ck_12 fl_12_90 ly_84 rf_84_26 ?_
            refine wa_iload_n (i := 3) rfl rfl ?_
            refine wa_if_eq o_X12_doesProofLine_145 (by decide) (fun h24 => ?_) (fun h24 => ?_)
            · replace h24 := bI_f (b := false) (rfl) h24
              refine wa_iload_n (i := 1) rfl rfl ?_
              refine wa_iconst (v := 2) (by decide) ?_
              refine wa_iadd ?_
              refine wa_top (fun v25 hv25 => ?_)
              have tv25 := i_addT hv25
              clear hv25
              refine wa_iald ly_204 (by ((try simp only [vp_in_iff, Int32.lt_iff_toInt_lt, Int32.le_iff_toInt_le, ← Int32.toInt_inj, Int32.reduceToInt, n_1, n_2, n_8, Int32.toNatClampNeg, Int64.lt_iff_toInt_lt, Int64.le_iff_toInt_le, ← Int64.toInt_inj, Int64.reduceToInt, Int32.toInt_toInt64, lg_cmp_ge, lg_cmp_le, lg_cmp_gt, lg_cmp_lt, lg_cmp_eq, Bool.false_eq_true, Bool.true_eq_false, reduceCtorEq, false_iff, true_iff, iff_true, iff_false, and_true, true_and, and_false, false_and, reduceIte, ite_true, ite_false, eq_self] at *)) <;> omega) ?_
              refine wa_Vi (d9 := d - 1) [.int _, .int (bI false), .int _] [] (sp_X12_takesCase G (d := d - 1) (by omega) σ _ false _ A_202) (rfl) rfl rfl (zr (by omega)) mk_X12_takesCase ly_84 ml_12_1283 (Nat.le_of_ble_eq_true rfl) (fun x27 s26 hs26 => ?_)
              obtain ⟨bx27, ex27, fs26, -⟩ := pB hs26
              subst ex27
              have Fs26 : Fm [86, 87, 88, 89, 90, 91, 92, 147] [101, 102, 187, 192] σ s26 := Fm.tr (Fm.rf [86, 87, 88, 89, 90, 91, 92, 147] [101, 102, 187, 192] σ) (Fm.wd fs26 rfl rfl)
              refine wa_zreturn bx27 (rfl) rfl rfl ?_
              exact ⟨_, rfl, Fs26, trivial⟩
            · replace h24 := bI_t (b := false) (rfl) h24
              refine wa_iload_n (i := 1) rfl rfl ?_
              refine wa_iconst (v := 3) (by decide) ?_
              refine wa_iadd ?_
              refine wa_top (fun v28 hv28 => ?_)
              have tv28 := i_addT hv28
              clear hv28
              refine wa_goto o_X12_doesProofLine_148 (by decide) ?_
              refine wa_iald ly_204 (by ((try simp only [vp_in_iff, Int32.lt_iff_toInt_lt, Int32.le_iff_toInt_le, ← Int32.toInt_inj, Int32.reduceToInt, n_1, n_2, n_8, Int32.toNatClampNeg, Int64.lt_iff_toInt_lt, Int64.le_iff_toInt_le, ← Int64.toInt_inj, Int64.reduceToInt, Int32.toInt_toInt64, lg_cmp_ge, lg_cmp_le, lg_cmp_gt, lg_cmp_lt, lg_cmp_eq, Bool.false_eq_true, Bool.true_eq_false, reduceCtorEq, false_iff, true_iff, iff_true, iff_false, and_true, true_and, and_false, false_and, reduceIte, ite_true, ite_false, eq_self] at *)) <;> omega) ?_
              refine wa_Vi (d9 := d - 1) [.int _, .int (bI false), .int _] [] (sp_X12_takesCase G (d := d - 1) (by omega) σ _ false _ A_202) (rfl) rfl rfl (zr (by omega)) mk_X12_takesCase ly_84 ml_12_1283 (Nat.le_of_ble_eq_true rfl) (fun x30 s29 hs29 => ?_)
              obtain ⟨bx30, ex30, fs29, -⟩ := pB hs29
              subst ex30
              have Fs29 : Fm [86, 87, 88, 89, 90, 91, 92, 147] [101, 102, 187, 192] σ s29 := Fm.tr (Fm.rf [86, 87, 88, 89, 90, 91, 92, 147] [101, 102, 187, 192] σ) (Fm.wd fs29 rfl rfl)
              refine wa_zreturn bx30 (rfl) rfl rfl ?_
              exact ⟨_, rfl, Fs29, trivial⟩
          · refine wa_iconst (v := 1) (by decide) ?_
            refine wa_goto o_X12_doesProofLine_125 (by decide) ?_
            refine wa_istore_nD (lv' := [(3, .int (bI true)), (2, .int (gi σ 204 (v1).toNatClampNeg)), (0, .ref 84), (1, .int a0)]) (i := 3) rfl (by decide) rfl ?_
            refine wa_aload_n (i := 0) rfl rfl ?_
            refine wa_iload_n (i := 1) rfl rfl ?_
            refine wa_iconst (v := 1) (by decide) ?_
            refine wa_iadd ?_
            refine wa_top (fun v31 hv31 => ?_)
            have tv31 := i_addT hv31
            clear hv31
            refine wa_iload_n (i := 3) rfl rfl ?_
            refine wa_aload_n (i := 0) rfl rfl ?_
            refine wa_getr ck_12 fl_12_90 ly_84 rf_84_26 ?_
            refine wa_iload_n (i := 3) rfl rfl ?_
            refine wa_if_eq o_X12_doesProofLine_145 (by decide) (fun h32 => ?_) (fun h32 => ?_)
            · replace h32 := bI_f (b := true) (rfl) h32
              refine wa_iload_n (i := 1) rfl rfl ?_
              refine wa_iconst (v := 2) (by decide) ?_
              refine wa_iadd ?_
              refine wa_top (fun v33 hv33 => ?_)
              have tv33 := i_addT hv33
              clear hv33
              refine wa_iald ly_204 (by ((try simp only [vp_in_iff, Int32.lt_iff_toInt_lt, Int32.le_iff_toInt_le, ← Int32.toInt_inj, Int32.reduceToInt, n_1, n_2, n_8, Int32.toNatClampNeg, Int64.lt_iff_toInt_lt, Int64.le_iff_toInt_le, ← Int64.toInt_inj, Int64.reduceToInt, Int32.toInt_toInt64, lg_cmp_ge, lg_cmp_le, lg_cmp_gt, lg_cmp_lt, lg_cmp_eq, Bool.false_eq_true, Bool.true_eq_false, reduceCtorEq, false_iff, true_iff, iff_true, iff_false, and_true, true_and, and_false, false_and, reduceIte, ite_true, ite_false, eq_self] at *)) <;> omega) ?_
              refine wa_Vi (d9 := d - 1) [.int _, .int (bI true), .int _] [] (sp_X12_takesCase G (d := d - 1) (by omega) σ _ true _ A_202) (rfl) rfl rfl (zr (by omega)) mk_X12_takesCase ly_84 ml_12_1283 (Nat.le_of_ble_eq_true rfl) (fun x35 s34 hs34 => ?_)
              obtain ⟨bx35, ex35, fs34, -⟩ := pB hs34
              subst ex35
              have Fs34 : Fm [86, 87, 88, 89, 90, 91, 92, 147] [101, 102, 187, 192] σ s34 := Fm.tr (Fm.rf [86, 87, 88, 89, 90, 91, 92, 147] [101, 102, 187, 192] σ) (Fm.wd fs34 rfl rfl)
              refine wa_zreturn bx35 (rfl) rfl rfl ?_
              exact ⟨_, rfl, Fs34, trivial⟩
            · replace h32 := bI_t (b := true) (rfl) h32
              refine wa_iload_n (i := 1) rfl rfl ?_
              refine wa_iconst (v := 3) (by decide) ?_
              refine wa_iadd ?_
              refine wa_top (fun v36 hv36 => ?_)
              have tv36 := i_addT hv36
              clear hv36
              refine wa_goto o_X12_doesProofLine_148 (by decide) ?_
              refine wa_iald ly_204 (by ((try simp only [vp_in_iff, Int32.lt_iff_toInt_lt, Int32.le_iff_toInt_le, ← Int32.toInt_inj, Int32.reduceToInt, n_1, n_2, n_8, Int32.toNatClampNeg, Int64.lt_iff_toInt_lt, Int64.le_iff_toInt_le, ← Int64.toInt_inj, Int64.reduceToInt, Int32.toInt_toInt64, lg_cmp_ge, lg_cmp_le, lg_cmp_gt, lg_cmp_lt, lg_cmp_eq, Bool.false_eq_true, Bool.true_eq_false, reduceCtorEq, false_iff, true_iff, iff_true, iff_false, and_true, true_and, and_false, false_and, reduceIte, ite_true, ite_false, eq_self] at *)) <;> omega) ?_
              refine wa_Vi (d9 := d - 1) [.int _, .int (bI true), .int _] [] (sp_X12_takesCase G (d := d - 1) (by omega) σ _ true _ A_202) (rfl) rfl rfl (zr (by omega)) mk_X12_takesCase ly_84 ml_12_1283 (Nat.le_of_ble_eq_true rfl) (fun x38 s37 hs37 => ?_)
              obtain ⟨bx38, ex38, fs37, -⟩ := pB hs37
              subst ex38
              have Fs37 : Fm [86, 87, 88, 89, 90, 91, 92, 147] [101, 102, 187, 192] σ s37 := Fm.tr (Fm.rf [86, 87, 88, 89, 90, 91, 92, 147] [101, 102, 187, 192] σ) (Fm.wd fs37 rfl rfl)
              refine wa_zreturn bx38 (rfl) rfl rfl ?_
              exact ⟨_, rfl, Fs37, trivial⟩
        ·
          by_cases h39 : q4 = 5
          · refine wa_tIn (by rw [h39]; decide) (by rw [h39]; decide) (by rw [h39] <;> rfl) o_X12_doesProofLine_153 (by decide) ?_
            refine wa_aload_n (i := 0) rfl rfl ?_
            refine wa_Vi (d9 := d - 1) [] [] (sp_X12_takesElse G (d := d - 1) (by omega) σ ) (rfl) rfl rfl (zr (by omega)) mk_X12_takesElse ly_84 ml_12_1287 (Nat.le_of_ble_eq_true rfl) (fun x41 s40 hs40 => ?_)
            obtain ⟨bx41, ex41, fs40, -⟩ := pB hs40
            subst ex41
            have Fs40 : Fm [86, 87, 88, 89, 90, 91, 92, 147] [101, 102, 187, 192] σ s40 := Fm.tr (Fm.rf [86, 87, 88, 89, 90, 91, 92, 147] [101, 102, 187, 192] σ) (Fm.wd fs40 rfl rfl)
            refine wa_zreturn bx41 (rfl) rfl rfl ?_
            exact ⟨_, rfl, Fs40, trivial⟩
          ·
            refine wa_tOut (by (try simp only [vp_in_iff, Int32.lt_iff_toInt_lt, Int32.le_iff_toInt_le, ← Int32.toInt_inj, Int32.reduceToInt, n_1, n_2, n_8, Int32.toNatClampNeg, Int64.lt_iff_toInt_lt, Int64.le_iff_toInt_le, ← Int64.toInt_inj, Int64.reduceToInt, Int32.toInt_toInt64, lg_cmp_ge, lg_cmp_le, lg_cmp_gt, lg_cmp_lt, lg_cmp_eq] at *) <;> omega) o_X12_doesProofLine_158 (by decide) ?_
            refine wa_aload_n (i := 0) rfl rfl ?_
            refine wa_Vi (d9 := d - 1) [] [] (sp_X12_takesDone G (d := d - 1) (by omega) σ ) (rfl) rfl rfl (zr (by omega)) mk_X12_takesDone ly_84 ml_12_1290 (Nat.le_of_ble_eq_true rfl) (fun x43 s42 hs42 => ?_)
            obtain ⟨bx43, ex43, fs42, -⟩ := pB hs42
            subst ex43
            have Fs42 : Fm [86, 87, 88, 89, 90, 91, 92, 147] [101, 102, 187, 192] σ s42 := Fm.tr (Fm.rf [86, 87, 88, 89, 90, 91, 92, 147] [101, 102, 187, 192] σ) (Fm.wd fs42 rfl rfl)
            refine wa_zreturn bx43 (rfl) rfl rfl ?_
            exact ⟨_, rfl, Fs42, trivial⟩
set_option maxHeartbeats 4000000 in
theorem sp_X12_line (G : kG9) {d : Nat} (hd : 1 ≤ d) (σ : St) (a0 : Int32) (a1 : Int32) : Ct G M_X12_line d [.ref 84, .int a0, .int a1] σ (fun r σ' => ∃ x : Int64, r = some (.long x) ∧ Fm [] [0] σ σ' ∧ True) := by
  refine wa_start (by decide) rfl (Nat.le_of_ble_eq_true rfl) (lv := [(0, .ref 84), (1, .int a0), (2, .int a1)]) rfl o_X12_line_0 rfl ?_
  have ua0 := Int32.toInt_lt a0
  have wa0 := Int32.le_toInt a0
  have ua1 := Int32.toInt_lt a1
  have wa1 := Int32.le_toInt a1
  refine wa_aload_n (i := 0) rfl rfl ?_
  refine wa_iload_n (i := 1) rfl rfl ?_
  refine wa_i2l ?_
  refine wa_lconst (v := 1) (by decide) ?_
  refine wa_aload_n (i := 0) rfl rfl ?_
  refine wa_geti ck_12 fl_12_1247 ly_84 ?_
  refine wa_i2l ?_
  refine wa_Si (d9 := d - 1) [.long _, .long _, .long _] [.ref 84] (sp_X12_in G (d := d - 1) (by omega) σ _ _ _) (rfl) rfl rfl (zr (by omega)) mk_X12_in ml_12_504 (Nat.le_of_ble_eq_true rfl) (fun x2 s1 hs1 => ?_)
  obtain ⟨bx2, ex2, zs1, cx2_1, -⟩ := pB hs1
  subst ex2
  subst zs1
  refine wa_if_eq o_X12_line_31 (by decide) (fun h3 => ?_) (fun h3 => ?_)
  · replace h3 := bI_f (b := bx2) (rfl) h3
    have uh3_0 := iff_f cx2_1 h3
    refine wa_iconst (v := 1) (by decide) ?_
    refine wa_puti ck_12 fl_12_3 ly_84 (fun s4 hs4 => ?_)
    have Fs4 : Fm [] [0] σ s4 := by rw [hs4]; exact Fm.si (Fm.rf [] [0] σ) rfl
    refine wa_aload_n (i := 0) rfl rfl ?_
    refine wa_geti ck_12 fl_12_3 ly_84 ?_
    refine wa_rw (nxe_gi_si hs4) ?_
    refine wa_if_le o_X12_line_46 (by decide) (fun h5 => ?_) (fun h5 => ?_)
    · refine wa_iload_n (i := 2) rfl rfl ?_
      refine wa_iconst (v := 4) (by decide) ?_
      refine wa_icmp_ne o_X12_line_60 (by decide) (fun h6 => ?_) (fun h6 => ?_)
      · refine wa_aload_n (i := 0) rfl rfl ?_
        refine wa_getr ck_12 fl_12_435 ly_84 rf_84_184 ?_
        refine wa_iconst (v := 4) (by decide) ?_
        refine wa_iload_n (i := 1) rfl rfl ?_
        refine wa_imul ?_
        refine wa_top (fun v7 hv7 => ?_)
        have tv7 := i_mulT hv7
        clear hv7
        refine wa_iload_n (i := 2) rfl rfl ?_
        refine wa_iadd ?_
        refine wa_top (fun v8 hv8 => ?_)
        have tv8 := i_addT hv8
        clear hv8
        refine wa_lald ly_92 (by ((try simp only [vp_in_iff, Int32.lt_iff_toInt_lt, Int32.le_iff_toInt_le, ← Int32.toInt_inj, Int32.reduceToInt, n_1, n_2, n_8, Int32.toNatClampNeg, Int64.lt_iff_toInt_lt, Int64.le_iff_toInt_le, ← Int64.toInt_inj, Int64.reduceToInt, Int32.toInt_toInt64, lg_cmp_ge, lg_cmp_le, lg_cmp_gt, lg_cmp_lt, lg_cmp_eq, Bool.false_eq_true, Bool.true_eq_false, reduceCtorEq, false_iff, true_iff, iff_true, iff_false, and_true, true_and, and_false, false_and, reduceIte, ite_true, ite_false, eq_self] at *)) <;> omega) ?_
        refine wa_lreturn rfl rfl ?_
        exact ⟨_, rfl, Fs4, trivial⟩
      · refine wa_aload_n (i := 0) rfl rfl ?_
        refine wa_getr ck_12 fl_12_438 ly_84 rf_84_185 ?_
        refine wa_iload_n (i := 1) rfl rfl ?_
        refine wa_lald ly_91 (by ((try simp only [vp_in_iff, Int32.lt_iff_toInt_lt, Int32.le_iff_toInt_le, ← Int32.toInt_inj, Int32.reduceToInt, n_1, n_2, n_8, Int32.toNatClampNeg, Int64.lt_iff_toInt_lt, Int64.le_iff_toInt_le, ← Int64.toInt_inj, Int64.reduceToInt, Int32.toInt_toInt64, lg_cmp_ge, lg_cmp_le, lg_cmp_gt, lg_cmp_lt, lg_cmp_eq, Bool.false_eq_true, Bool.true_eq_false, reduceCtorEq, false_iff, true_iff, iff_true, iff_false, and_true, true_and, and_false, false_and, reduceIte, ite_true, ite_false, eq_self] at *)) <;> omega) ?_
        refine wa_goto o_X12_line_70 (by decide) ?_
        refine wa_lreturn rfl rfl ?_
        exact ⟨_, rfl, Fs4, trivial⟩
    · refine wa_lconst (v := 0) (by decide) ?_
      refine wa_goto o_X12_line_70 (by decide) ?_
      refine wa_lreturn rfl rfl ?_
      exact ⟨_, rfl, Fs4, trivial⟩
  · replace h3 := bI_t (b := bx2) (rfl) h3
    have uh3_0 := iff_t cx2_1 h3
    refine wa_iload_n (i := 2) rfl rfl ?_
    refine wa_i2l ?_
    refine wa_lconst (v := 0) (by decide) ?_
    refine wa_ldc2 (v := (4)) (allW_in (kT_12 _ (List.mem_of_getElem? (i := 125) rfl)) rfl) ?_
    refine wa_Si (d9 := d - 1) [.long _, .long _, .long _] [.ref 84] (sp_X12_in G (d := d - 1) (by omega) σ _ _ _) (rfl) rfl rfl (zr (by omega)) mk_X12_in ml_12_504 (Nat.le_of_ble_eq_true rfl) (fun x10 s9 hs9 => ?_)
    obtain ⟨bx10, ex10, zs9, cx10_1, -⟩ := pB hs9
    subst ex10
    subst zs9
    refine wa_if_eq o_X12_line_31 (by decide) (fun h11 => ?_) (fun h11 => ?_)
    · replace h11 := bI_f (b := bx10) (rfl) h11
      have uh11_0 := iff_f cx10_1 h11
      refine wa_iconst (v := 1) (by decide) ?_
      refine wa_puti ck_12 fl_12_3 ly_84 (fun s12 hs12 => ?_)
      have Fs12 : Fm [] [0] σ s12 := by rw [hs12]; exact Fm.si (Fm.rf [] [0] σ) rfl
      refine wa_aload_n (i := 0) rfl rfl ?_
      refine wa_geti ck_12 fl_12_3 ly_84 ?_
      refine wa_rw (nxe_gi_si hs12) ?_
      refine wa_if_le o_X12_line_46 (by decide) (fun h13 => ?_) (fun h13 => ?_)
      · refine wa_iload_n (i := 2) rfl rfl ?_
        refine wa_iconst (v := 4) (by decide) ?_
        refine wa_icmp_ne o_X12_line_60 (by decide) (fun h14 => ?_) (fun h14 => ?_)
        · refine wa_aload_n (i := 0) rfl rfl ?_
          refine wa_getr ck_12 fl_12_435 ly_84 rf_84_184 ?_
          refine wa_iconst (v := 4) (by decide) ?_
          refine wa_iload_n (i := 1) rfl rfl ?_
          refine wa_imul ?_
          refine wa_top (fun v15 hv15 => ?_)
          have tv15 := i_mulT hv15
          clear hv15
          refine wa_iload_n (i := 2) rfl rfl ?_
          refine wa_iadd ?_
          refine wa_top (fun v16 hv16 => ?_)
          have tv16 := i_addT hv16
          clear hv16
          refine wa_lald ly_92 (by ((try simp only [vp_in_iff, Int32.lt_iff_toInt_lt, Int32.le_iff_toInt_le, ← Int32.toInt_inj, Int32.reduceToInt, n_1, n_2, n_8, Int32.toNatClampNeg, Int64.lt_iff_toInt_lt, Int64.le_iff_toInt_le, ← Int64.toInt_inj, Int64.reduceToInt, Int32.toInt_toInt64, lg_cmp_ge, lg_cmp_le, lg_cmp_gt, lg_cmp_lt, lg_cmp_eq, Bool.false_eq_true, Bool.true_eq_false, reduceCtorEq, false_iff, true_iff, iff_true, iff_false, and_true, true_and, and_false, false_and, reduceIte, ite_true, ite_false, eq_self] at *)) <;> omega) ?_
          refine wa_lreturn rfl rfl ?_
          exact ⟨_, rfl, Fs12, trivial⟩
        · refine wa_aload_n (i := 0) rfl rfl ?_
          refine wa_getr ck_12 fl_12_438 ly_84 rf_84_185 ?_
          refine wa_iload_n (i := 1) rfl rfl ?_
          refine wa_lald ly_91 (by ((try simp only [vp_in_iff, Int32.lt_iff_toInt_lt, Int32.le_iff_toInt_le, ← Int32.toInt_inj, Int32.reduceToInt, n_1, n_2, n_8, Int32.toNatClampNeg, Int64.lt_iff_toInt_lt, Int64.le_iff_toInt_le, ← Int64.toInt_inj, Int64.reduceToInt, Int32.toInt_toInt64, lg_cmp_ge, lg_cmp_le, lg_cmp_gt, lg_cmp_lt, lg_cmp_eq, Bool.false_eq_true, Bool.true_eq_false, reduceCtorEq, false_iff, true_iff, iff_true, iff_false, and_true, true_and, and_false, false_and, reduceIte, ite_true, ite_false, eq_self] at *)) <;> omega) ?_
          refine wa_goto o_X12_line_70 (by decide) ?_
          refine wa_lreturn rfl rfl ?_
          exact ⟨_, rfl, Fs12, trivial⟩
      · refine wa_lconst (v := 0) (by decide) ?_
        refine wa_goto o_X12_line_70 (by decide) ?_
        refine wa_lreturn rfl rfl ?_
        exact ⟨_, rfl, Fs12, trivial⟩
    · replace h11 := bI_t (b := bx10) (rfl) h11
      have uh11_0 := iff_t cx10_1 h11
      refine wa_iconst (v := 0) (by decide) ?_
      refine wa_goto o_X12_line_32 (by decide) ?_
      refine wa_puti ck_12 fl_12_3 ly_84 (fun s17 hs17 => ?_)
      have Fs17 : Fm [] [0] σ s17 := by rw [hs17]; exact Fm.si (Fm.rf [] [0] σ) rfl
      refine wa_aload_n (i := 0) rfl rfl ?_
      refine wa_geti ck_12 fl_12_3 ly_84 ?_
      refine wa_rw (nxe_gi_si hs17) ?_
      refine wa_if_le o_X12_line_46 (by decide) (fun h18 => ?_) (fun h18 => ?_)
      · refine wa_iload_n (i := 2) rfl rfl ?_
        refine wa_iconst (v := 4) (by decide) ?_
        refine wa_icmp_ne o_X12_line_60 (by decide) (fun h19 => ?_) (fun h19 => ?_)
        · refine wa_aload_n (i := 0) rfl rfl ?_
          refine wa_getr ck_12 fl_12_435 ly_84 rf_84_184 ?_
          refine wa_iconst (v := 4) (by decide) ?_
          refine wa_iload_n (i := 1) rfl rfl ?_
          refine wa_imul ?_
          refine wa_top (fun v20 hv20 => ?_)
          have tv20 := i_mulT hv20
          clear hv20
          refine wa_iload_n (i := 2) rfl rfl ?_
          refine wa_iadd ?_
          refine wa_top (fun v21 hv21 => ?_)
          have tv21 := i_addT hv21
          clear hv21
          refine wa_lald ly_92 (by ((try simp only [vp_in_iff, Int32.lt_iff_toInt_lt, Int32.le_iff_toInt_le, ← Int32.toInt_inj, Int32.reduceToInt, n_1, n_2, n_8, Int32.toNatClampNeg, Int64.lt_iff_toInt_lt, Int64.le_iff_toInt_le, ← Int64.toInt_inj, Int64.reduceToInt, Int32.toInt_toInt64, lg_cmp_ge, lg_cmp_le, lg_cmp_gt, lg_cmp_lt, lg_cmp_eq, Bool.false_eq_true, Bool.true_eq_false, reduceCtorEq, false_iff, true_iff, iff_true, iff_false, and_true, true_and, and_false, false_and, reduceIte, ite_true, ite_false, eq_self] at *)) <;> omega) ?_
          refine wa_lreturn rfl rfl ?_
          exact ⟨_, rfl, Fs17, trivial⟩
        · refine wa_aload_n (i := 0) rfl rfl ?_
          refine wa_getr ck_12 fl_12_438 ly_84 rf_84_185 ?_
          refine wa_iload_n (i := 1) rfl rfl ?_
          refine wa_lald ly_91 (by ((try simp only [vp_in_iff, Int32.lt_iff_toInt_lt, Int32.le_iff_toInt_le, ← Int32.toInt_inj, Int32.reduceToInt, n_1, n_2, n_8, Int32.toNatClampNeg, Int64.lt_iff_toInt_lt, Int64.le_iff_toInt_le, ← Int64.toInt_inj, Int64.reduceToInt, Int32.toInt_toInt64, lg_cmp_ge, lg_cmp_le, lg_cmp_gt, lg_cmp_lt, lg_cmp_eq, Bool.false_eq_true, Bool.true_eq_false, reduceCtorEq, false_iff, true_iff, iff_true, iff_false, and_true, true_and, and_false, false_and, reduceIte, ite_true, ite_false, eq_self] at *)) <;> omega) ?_
          refine wa_goto o_X12_line_70 (by decide) ?_
          refine wa_lreturn rfl rfl ?_
          exact ⟨_, rfl, Fs17, trivial⟩
      · refine wa_lconst (v := 0) (by decide) ?_
        refine wa_goto o_X12_line_70 (by decide) ?_
        refine wa_lreturn rfl rfl ?_
        exact ⟨_, rfl, Fs17, trivial⟩
set_option maxHeartbeats 4000000 in
theorem sp_X12_times (G : kG9) {d : Nat} (hd : 0 ≤ d) (σ : St) (a0 : Int64) (p1 : 0 ≤ a0.toInt ∧ a0.toInt < 100000000) (r1 : 0 ≤ (gi σ 84 194).toInt ∧ (gi σ 84 194).toInt ≤ 3990) (A_85 : AR ap_85 σ 85) : Ct G M_X12_times d [.ref 84, .long a0] σ (fun r σ' => Fm [85] [194] σ σ' ∧ ((gi σ 84 194).toInt ≤ (gi σ' 84 194).toInt ∧ (gi σ' 84 194).toInt ≤ (gi σ 84 194).toInt + 2) ∧ AR ap_85 σ' 85 ∧ True) := by
  refine wa_start (by decide) rfl (Nat.le_of_ble_eq_true rfl) (lv := [(0, .ref 84), (1, .long a0)]) rfl o_X12_times_0 rfl ?_
  refine wa_lconst (v := 0) (by decide) ?_
  refine wa_lstore_nD (lv' := [(3, .long 0), (0, .ref 84), (1, .long a0)]) (i := 3) rfl (by decide) rfl ?_
  refine wa_iconst (v := 0) (by decide) ?_
  refine wa_istoreD (lv' := [(5, .int 0), (3, .long 0), (0, .ref 84), (1, .long a0)]) (by decide) rfl ?_
  refine wa_pick [2, 3, 1, 0] rfl ?_
  have hi3 : ∀ (n9_5 : Nat) (l3 : Int64) (l5 : Int32) (s1 : St), ((Fm [85] [194] σ s1) ∧ (gi s1 84 194 = gi σ 84 194) ∧ (AR ap_85 s1 85) ∧ (0 ≤ l5.toInt) ∧ (0 ≤ l3.toInt ∧ l3.toInt ≤ a0.toInt) ∧ (True)) → (2147483647 - l5.toInt).toNat = n9_5 → WA G M_X12_times (ZM G M_X12_times d (fun r σ' => Fm [85] [194] σ σ' ∧ ((gi σ 84 194).toInt ≤ (gi σ' 84 194).toInt ∧ (gi σ' 84 194).toInt ≤ (gi σ 84 194).toInt + 2) ∧ AR ap_85 σ' 85 ∧ True)) B_X12_times_5 [(0, .ref 84), (1, .long a0), (3, .long l3), (5, .int l5)] [] s1 := by
    intro n9_5
    induction n9_5 using Nat.strongRecOn with
    | _ n9_5 ih2 =>
      intro l3 l5 s1 i9 m9_5
      obtain ⟨Fs1, khi3_0, As1_85, jhi3_0, jhi3_1, -⟩ := i9
      have ul5 := Int32.toInt_lt l5
      have wl5 := Int32.le_toInt l5
      refine wa_iload rfl ?_
      refine wa_aload_n (i := 0) rfl rfl ?_
      refine wa_geti ck_12 fl_12_1299 ly_84 ?_
      refine wa_rw (khi3_0) ?_
      refine wa_icmp_ge o_X12_times_55 (by decide) (fun h4 => ?_) (fun h4 => ?_)
      · refine wa_pick [0, 2] rfl ?_
        have hi7 : ∀ (n9_55 : Nat) (l3 : Int64) (s5 : St), ((Fm [85] [194] σ s5) ∧ (AR ap_85 s5 85) ∧ (0 ≤ l3.toInt) ∧ (((gi s5 84 194).toInt = (gi σ 84 194).toInt ∧ l3.toInt < 100000000) ∨ ((gi s5 84 194).toInt = (gi σ 84 194).toInt + 1 ∧ l3.toInt < 10000) ∨ ((gi s5 84 194).toInt = (gi σ 84 194).toInt + 2 ∧ l3.toInt = 0)) ∧ (True)) → (l3.toInt).toNat = n9_55 → WA G M_X12_times (ZM G M_X12_times d (fun r σ' => Fm [85] [194] σ σ' ∧ ((gi σ 84 194).toInt ≤ (gi σ' 84 194).toInt ∧ (gi σ' 84 194).toInt ≤ (gi σ 84 194).toInt + 2) ∧ AR ap_85 σ' 85 ∧ True)) B_X12_times_55 [(0, .ref 84), (3, .long l3)] [] s5 := by
          intro n9_55
          induction n9_55 using Nat.strongRecOn with
          | _ n9_55 ih6 =>
            intro l3 s5 i9 m9_55
            obtain ⟨Fs5, As5_85, jhi7_0, jhi7_1, -⟩ := i9
            refine wa_lload_n (i := 3) rfl rfl ?_
            refine wa_lconst (v := 0) (by decide) ?_
            refine wa_lcmp ?_
            refine wa_top (fun v8 hv8 => ?_)
            have tv8 := i_cmpT hv8
            clear hv8
            refine wa_if_le o_X12_times_95 (by decide) (fun h9 => ?_) (fun h9 => ?_)
            · refine wa_return (st := []) rfl rfl ?_
              exact ⟨Fs5, (by first | assumption | (((try simp only [vp_in_iff, Int32.lt_iff_toInt_lt, Int32.le_iff_toInt_le, ← Int32.toInt_inj, Int32.reduceToInt, n_1, n_2, n_8, Int32.toNatClampNeg, Int64.lt_iff_toInt_lt, Int64.le_iff_toInt_le, ← Int64.toInt_inj, Int64.reduceToInt, Int32.toInt_toInt64, lg_cmp_ge, lg_cmp_le, lg_cmp_gt, lg_cmp_lt, lg_cmp_eq, Bool.false_eq_true, Bool.true_eq_false, reduceCtorEq, false_iff, true_iff, iff_true, iff_false, and_true, true_and, and_false, false_and, reduceIte, ite_true, ite_false, eq_self] at *)) <;> omega)), As5_85, trivial⟩
            · refine wa_aload_n (i := 0) rfl rfl ?_
              refine wa_getr ck_12 fl_12_456 ly_84 rf_84_193 ?_
              refine wa_aload_n (i := 0) rfl rfl ?_
              refine wa_geti ck_12 fl_12_1299 ly_84 ?_
              refine wa_lload_n (i := 3) rfl rfl ?_
              refine wa_ldc2 (v := (10000)) (allW_in (kT_16 _ (List.mem_of_getElem? (i := 11) rfl)) rfl) ?_
              refine wa_lrem (by ((try simp only [vp_in_iff, Int32.lt_iff_toInt_lt, Int32.le_iff_toInt_le, ← Int32.toInt_inj, Int32.reduceToInt, n_1, n_2, n_8, Int32.toNatClampNeg, Int64.lt_iff_toInt_lt, Int64.le_iff_toInt_le, ← Int64.toInt_inj, Int64.reduceToInt, Int32.toInt_toInt64, lg_cmp_ge, lg_cmp_le, lg_cmp_gt, lg_cmp_lt, lg_cmp_eq, Bool.false_eq_true, Bool.true_eq_false, reduceCtorEq, false_iff, true_iff, iff_true, iff_false, and_true, true_and, and_false, false_and, reduceIte, ite_true, ite_false, eq_self] at *)) <;> omega) ?_
              refine wa_topl (fun v10 hv10 => ?_)
              have tv10 := l_remU hv10
              clear hv10
              refine wa_l2i ?_
              refine wa_top (fun v11 hv11 => ?_)
              have tv11 := i_l2iU hv11
              clear hv11
              refine wa_iast ly_85 (by ((try simp only [vp_in_iff, Int32.lt_iff_toInt_lt, Int32.le_iff_toInt_le, ← Int32.toInt_inj, Int32.reduceToInt, n_1, n_2, n_8, Int32.toNatClampNeg, Int64.lt_iff_toInt_lt, Int64.le_iff_toInt_le, ← Int64.toInt_inj, Int64.reduceToInt, Int32.toInt_toInt64, lg_cmp_ge, lg_cmp_le, lg_cmp_gt, lg_cmp_lt, lg_cmp_eq, Bool.false_eq_true, Bool.true_eq_false, reduceCtorEq, false_iff, true_iff, iff_true, iff_false, and_true, true_and, and_false, false_and, reduceIte, ite_true, ite_false, eq_self] at *)) <;> omega) (fun s12 hs12 => ?_)
              have Fs12 : Fm [85] [194] σ s12 := by rw [hs12]; exact Fm.si Fs5 rfl
              have Vs12 : 0 ≤ (v11 : Int32).toInt ∧ (v11 : Int32).toInt ≤ 9999 := by ((try simp only [vp_in_iff, Int32.lt_iff_toInt_lt, Int32.le_iff_toInt_le, ← Int32.toInt_inj, Int32.reduceToInt, n_1, n_2, n_8, Int32.toNatClampNeg, Int64.lt_iff_toInt_lt, Int64.le_iff_toInt_le, ← Int64.toInt_inj, Int64.reduceToInt, Int32.toInt_toInt64, lg_cmp_ge, lg_cmp_le, lg_cmp_gt, lg_cmp_lt, lg_cmp_eq, Bool.false_eq_true, Bool.true_eq_false, reduceCtorEq, false_iff, true_iff, iff_true, iff_false, and_true, true_and, and_false, false_and, reduceIte, ite_true, ite_false, eq_self] at *)) <;> omega
              refine wa_lload_n (i := 3) rfl rfl ?_
              refine wa_ldc2 (v := (10000)) (allW_in (kT_16 _ (List.mem_of_getElem? (i := 11) rfl)) rfl) ?_
              refine wa_ldiv (by ((try simp only [vp_in_iff, Int32.lt_iff_toInt_lt, Int32.le_iff_toInt_le, ← Int32.toInt_inj, Int32.reduceToInt, n_1, n_2, n_8, Int32.toNatClampNeg, Int64.lt_iff_toInt_lt, Int64.le_iff_toInt_le, ← Int64.toInt_inj, Int64.reduceToInt, Int32.toInt_toInt64, lg_cmp_ge, lg_cmp_le, lg_cmp_gt, lg_cmp_lt, lg_cmp_eq, Bool.false_eq_true, Bool.true_eq_false, reduceCtorEq, false_iff, true_iff, iff_true, iff_false, and_true, true_and, and_false, false_and, reduceIte, ite_true, ite_false, eq_self] at *)) <;> omega) ?_
              refine wa_topl (fun v13 hv13 => ?_)
              have tv13 := l_divU hv13
              clear hv13
              refine wa_lstore_nD (lv' := [(3, .long v13), (0, .ref 84)]) (i := 3) rfl (by decide) rfl ?_
              refine wa_aload_n (i := 0) rfl rfl ?_
              refine wa_dup rfl ?_
              refine wa_geti ck_12 fl_12_1299 ly_84 ?_
              refine wa_rw (nxq_gi_si hs12 (by decide)) ?_
              refine wa_iconst (v := 1) (by decide) ?_
              refine wa_iadd ?_
              refine wa_top (fun v14 hv14 => ?_)
              have tv14 := i_addT hv14
              clear hv14
              refine wa_puti ck_12 fl_12_1299 ly_84 (fun s15 hs15 => ?_)
              have Fs15 : Fm [85] [194] σ s15 := by rw [hs15]; exact Fm.si Fs12 rfl
              refine wa_goto o_X12_times_55 (by decide) ?_
              refine wa_pick [1, 0] rfl ?_
              exact ih6 _ (by ((try simp only [vp_in_iff, Int32.lt_iff_toInt_lt, Int32.le_iff_toInt_le, ← Int32.toInt_inj, Int32.reduceToInt, n_1, n_2, n_8, Int32.toNatClampNeg, Int64.lt_iff_toInt_lt, Int64.le_iff_toInt_le, ← Int64.toInt_inj, Int64.reduceToInt, Int32.toInt_toInt64, lg_cmp_ge, lg_cmp_le, lg_cmp_gt, lg_cmp_lt, lg_cmp_eq, Bool.false_eq_true, Bool.true_eq_false, reduceCtorEq, false_iff, true_iff, iff_true, iff_false, and_true, true_and, and_false, false_and, reduceIte, ite_true, ite_false, eq_self] at *)) <;> omega) _ _ ⟨Fs15, (ar_ni hs15 (by decide) (ar_w hs12 Vs12 As5_85)), (by ((try simp only [vp_in_iff, Int32.lt_iff_toInt_lt, Int32.le_iff_toInt_le, ← Int32.toInt_inj, Int32.reduceToInt, n_1, n_2, n_8, Int32.toNatClampNeg, Int64.lt_iff_toInt_lt, Int64.le_iff_toInt_le, ← Int64.toInt_inj, Int64.reduceToInt, Int32.toInt_toInt64, lg_cmp_ge, lg_cmp_le, lg_cmp_gt, lg_cmp_lt, lg_cmp_eq, Bool.false_eq_true, Bool.true_eq_false, reduceCtorEq, false_iff, true_iff, iff_true, iff_false, and_true, true_and, and_false, false_and, reduceIte, ite_true, ite_false, eq_self] at *)) <;> omega), (by rw [nxe_gi_si hs15]; first | assumption | (((try simp only [vp_in_iff, Int32.lt_iff_toInt_lt, Int32.le_iff_toInt_le, ← Int32.toInt_inj, Int32.reduceToInt, n_1, n_2, n_8, Int32.toNatClampNeg, Int64.lt_iff_toInt_lt, Int64.le_iff_toInt_le, ← Int64.toInt_inj, Int64.reduceToInt, Int32.toInt_toInt64, lg_cmp_ge, lg_cmp_le, lg_cmp_gt, lg_cmp_lt, lg_cmp_eq, Bool.false_eq_true, Bool.true_eq_false, reduceCtorEq, false_iff, true_iff, iff_true, iff_false, and_true, true_and, and_false, false_and, reduceIte, ite_true, ite_false, eq_self] at *)) <;> omega)), trivial⟩ rfl
        exact hi7 _ _ _ ⟨Fs1, As1_85, (by ((try simp only [vp_in_iff, Int32.lt_iff_toInt_lt, Int32.le_iff_toInt_le, ← Int32.toInt_inj, Int32.reduceToInt, n_1, n_2, n_8, Int32.toNatClampNeg, Int64.lt_iff_toInt_lt, Int64.le_iff_toInt_le, ← Int64.toInt_inj, Int64.reduceToInt, Int32.toInt_toInt64, lg_cmp_ge, lg_cmp_le, lg_cmp_gt, lg_cmp_lt, lg_cmp_eq, Bool.false_eq_true, Bool.true_eq_false, reduceCtorEq, false_iff, true_iff, iff_true, iff_false, and_true, true_and, and_false, false_and, reduceIte, ite_true, ite_false, eq_self] at *)) <;> omega), (by rw [khi3_0]; first | assumption | (((try simp only [vp_in_iff, Int32.lt_iff_toInt_lt, Int32.le_iff_toInt_le, ← Int32.toInt_inj, Int32.reduceToInt, n_1, n_2, n_8, Int32.toNatClampNeg, Int64.lt_iff_toInt_lt, Int64.le_iff_toInt_le, ← Int64.toInt_inj, Int64.reduceToInt, Int32.toInt_toInt64, lg_cmp_ge, lg_cmp_le, lg_cmp_gt, lg_cmp_lt, lg_cmp_eq, Bool.false_eq_true, Bool.true_eq_false, reduceCtorEq, false_iff, true_iff, iff_true, iff_false, and_true, true_and, and_false, false_and, reduceIte, ite_true, ite_false, eq_self] at *)) <;> omega)), trivial⟩ rfl
      · have mh4 := nle_mx h4
        refine wa_aload_n (i := 0) rfl rfl ?_
        refine wa_getr ck_12 fl_12_456 ly_84 rf_84_193 ?_
        refine wa_iload rfl ?_
        refine wa_iald ly_85 (by ((try simp only [vp_in_iff, Int32.lt_iff_toInt_lt, Int32.le_iff_toInt_le, ← Int32.toInt_inj, Int32.reduceToInt, n_1, n_2, n_8, Int32.toNatClampNeg, Int64.lt_iff_toInt_lt, Int64.le_iff_toInt_le, ← Int64.toInt_inj, Int64.reduceToInt, Int32.toInt_toInt64, lg_cmp_ge, lg_cmp_le, lg_cmp_gt, lg_cmp_lt, lg_cmp_eq, Bool.false_eq_true, Bool.true_eq_false, reduceCtorEq, false_iff, true_iff, iff_true, iff_false, and_true, true_and, and_false, false_and, reduceIte, ite_true, ite_false, eq_self] at *)) <;> omega) ?_
        refine wa_top (fun v16 hv16 => ?_)
        have rv16 : 0 ≤ v16.toInt ∧ v16.toInt ≤ 9999 := by rw [← hv16]; exact ar_at As1_85 _
        have mv16 : 0 ≤ v16.toInt * a0.toInt ∧ v16.toInt * a0.toInt ≤ 9999 * a0.toInt := mul_bd rv16.1 rv16.2 p1.1
        clear hv16
        refine wa_i2l ?_
        refine wa_lload_n (i := 1) rfl rfl ?_
        refine wa_lmul ?_
        refine wa_topl (fun v17 hv17 => ?_)
        have tv17 := m_l_remU hv17
        clear hv17
        refine wa_lload_n (i := 3) rfl rfl ?_
        refine wa_ladd ?_
        refine wa_topl (fun v18 hv18 => ?_)
        have tv18 := a_l_remU hv18
        clear hv18
        refine wa_lstoreD (lv' := [(6, .long v18), (0, .ref 84), (1, .long a0), (3, .long l3), (5, .int l5)]) (by decide) rfl ?_
        refine wa_aload_n (i := 0) rfl rfl ?_
        refine wa_getr ck_12 fl_12_456 ly_84 rf_84_193 ?_
        refine wa_iload rfl ?_
        refine wa_lload rfl ?_
        refine wa_ldc2 (v := (10000)) (allW_in (kT_16 _ (List.mem_of_getElem? (i := 11) rfl)) rfl) ?_
        refine wa_lrem (by ((try simp only [vp_in_iff, Int32.lt_iff_toInt_lt, Int32.le_iff_toInt_le, ← Int32.toInt_inj, Int32.reduceToInt, n_1, n_2, n_8, Int32.toNatClampNeg, Int64.lt_iff_toInt_lt, Int64.le_iff_toInt_le, ← Int64.toInt_inj, Int64.reduceToInt, Int32.toInt_toInt64, lg_cmp_ge, lg_cmp_le, lg_cmp_gt, lg_cmp_lt, lg_cmp_eq, Bool.false_eq_true, Bool.true_eq_false, reduceCtorEq, false_iff, true_iff, iff_true, iff_false, and_true, true_and, and_false, false_and, reduceIte, ite_true, ite_false, eq_self] at *)) <;> omega) ?_
        refine wa_topl (fun v19 hv19 => ?_)
        have tv19 := l_remU hv19
        clear hv19
        refine wa_l2i ?_
        refine wa_top (fun v20 hv20 => ?_)
        have tv20 := i_l2iU hv20
        clear hv20
        refine wa_iast ly_85 (by ((try simp only [vp_in_iff, Int32.lt_iff_toInt_lt, Int32.le_iff_toInt_le, ← Int32.toInt_inj, Int32.reduceToInt, n_1, n_2, n_8, Int32.toNatClampNeg, Int64.lt_iff_toInt_lt, Int64.le_iff_toInt_le, ← Int64.toInt_inj, Int64.reduceToInt, Int32.toInt_toInt64, lg_cmp_ge, lg_cmp_le, lg_cmp_gt, lg_cmp_lt, lg_cmp_eq, Bool.false_eq_true, Bool.true_eq_false, reduceCtorEq, false_iff, true_iff, iff_true, iff_false, and_true, true_and, and_false, false_and, reduceIte, ite_true, ite_false, eq_self] at *)) <;> omega) (fun s21 hs21 => ?_)
        have Fs21 : Fm [85] [194] σ s21 := by rw [hs21]; exact Fm.si Fs1 rfl
        have Vs21 : 0 ≤ (v20 : Int32).toInt ∧ (v20 : Int32).toInt ≤ 9999 := by ((try simp only [vp_in_iff, Int32.lt_iff_toInt_lt, Int32.le_iff_toInt_le, ← Int32.toInt_inj, Int32.reduceToInt, n_1, n_2, n_8, Int32.toNatClampNeg, Int64.lt_iff_toInt_lt, Int64.le_iff_toInt_le, ← Int64.toInt_inj, Int64.reduceToInt, Int32.toInt_toInt64, lg_cmp_ge, lg_cmp_le, lg_cmp_gt, lg_cmp_lt, lg_cmp_eq, Bool.false_eq_true, Bool.true_eq_false, reduceCtorEq, false_iff, true_iff, iff_true, iff_false, and_true, true_and, and_false, false_and, reduceIte, ite_true, ite_false, eq_self] at *)) <;> omega
        refine wa_lload rfl ?_
        refine wa_ldc2 (v := (10000)) (allW_in (kT_16 _ (List.mem_of_getElem? (i := 11) rfl)) rfl) ?_
        refine wa_ldiv (by ((try simp only [vp_in_iff, Int32.lt_iff_toInt_lt, Int32.le_iff_toInt_le, ← Int32.toInt_inj, Int32.reduceToInt, n_1, n_2, n_8, Int32.toNatClampNeg, Int64.lt_iff_toInt_lt, Int64.le_iff_toInt_le, ← Int64.toInt_inj, Int64.reduceToInt, Int32.toInt_toInt64, lg_cmp_ge, lg_cmp_le, lg_cmp_gt, lg_cmp_lt, lg_cmp_eq, Bool.false_eq_true, Bool.true_eq_false, reduceCtorEq, false_iff, true_iff, iff_true, iff_false, and_true, true_and, and_false, false_and, reduceIte, ite_true, ite_false, eq_self] at *)) <;> omega) ?_
        refine wa_topl (fun v22 hv22 => ?_)
        have tv22 := l_divU hv22
        clear hv22
        refine wa_lstore_nD (lv' := [(3, .long v22), (6, .long v18), (0, .ref 84), (1, .long a0), (5, .int l5)]) (i := 3) rfl (by decide) rfl ?_
        refine wa_iinc (v := (1)) (lv' := fun y23 => [(5, .int y23), (3, .long v22), (6, .long v18), (0, .ref 84), (1, .long a0)]) (by decide) rfl (by decide) (fun _ => rfl) (fun y23 hy23 => ?_)
        have ty23 := i_addT hy23.symm
        clear hy23
        refine wa_goto o_X12_times_5 (by decide) ?_
        refine wa_pick [3, 4, 1, 0] rfl ?_
        exact ih2 _ (by ((try simp only [vp_in_iff, Int32.lt_iff_toInt_lt, Int32.le_iff_toInt_le, ← Int32.toInt_inj, Int32.reduceToInt, n_1, n_2, n_8, Int32.toNatClampNeg, Int64.lt_iff_toInt_lt, Int64.le_iff_toInt_le, ← Int64.toInt_inj, Int64.reduceToInt, Int32.toInt_toInt64, lg_cmp_ge, lg_cmp_le, lg_cmp_gt, lg_cmp_lt, lg_cmp_eq, Bool.false_eq_true, Bool.true_eq_false, reduceCtorEq, false_iff, true_iff, iff_true, iff_false, and_true, true_and, and_false, false_and, reduceIte, ite_true, ite_false, eq_self] at *)) <;> omega) _ _ _ ⟨Fs21, ((nxq_gi_si hs21 (by decide)).trans (khi3_0)), (ar_w hs21 Vs21 As1_85), (by ((try simp only [vp_in_iff, Int32.lt_iff_toInt_lt, Int32.le_iff_toInt_le, ← Int32.toInt_inj, Int32.reduceToInt, n_1, n_2, n_8, Int32.toNatClampNeg, Int64.lt_iff_toInt_lt, Int64.le_iff_toInt_le, ← Int64.toInt_inj, Int64.reduceToInt, Int32.toInt_toInt64, lg_cmp_ge, lg_cmp_le, lg_cmp_gt, lg_cmp_lt, lg_cmp_eq, Bool.false_eq_true, Bool.true_eq_false, reduceCtorEq, false_iff, true_iff, iff_true, iff_false, and_true, true_and, and_false, false_and, reduceIte, ite_true, ite_false, eq_self] at *)) <;> omega), (by ((try simp only [vp_in_iff, Int32.lt_iff_toInt_lt, Int32.le_iff_toInt_le, ← Int32.toInt_inj, Int32.reduceToInt, n_1, n_2, n_8, Int32.toNatClampNeg, Int64.lt_iff_toInt_lt, Int64.le_iff_toInt_le, ← Int64.toInt_inj, Int64.reduceToInt, Int32.toInt_toInt64, lg_cmp_ge, lg_cmp_le, lg_cmp_gt, lg_cmp_lt, lg_cmp_eq, Bool.false_eq_true, Bool.true_eq_false, reduceCtorEq, false_iff, true_iff, iff_true, iff_false, and_true, true_and, and_false, false_and, reduceIte, ite_true, ite_false, eq_self] at *)) <;> omega), trivial⟩ rfl
  exact hi3 _ _ _ _ ⟨(Fm.rf [85] [194] σ), (rfl), A_85, (by ((try simp only [vp_in_iff, Int32.lt_iff_toInt_lt, Int32.le_iff_toInt_le, ← Int32.toInt_inj, Int32.reduceToInt, n_1, n_2, n_8, Int32.toNatClampNeg, Int64.lt_iff_toInt_lt, Int64.le_iff_toInt_le, ← Int64.toInt_inj, Int64.reduceToInt, Int32.toInt_toInt64, lg_cmp_ge, lg_cmp_le, lg_cmp_gt, lg_cmp_lt, lg_cmp_eq, Bool.false_eq_true, Bool.true_eq_false, reduceCtorEq, false_iff, true_iff, iff_true, iff_false, and_true, true_and, and_false, false_and, reduceIte, ite_true, ite_false, eq_self] at *)) <;> omega), (by ((try simp only [vp_in_iff, Int32.lt_iff_toInt_lt, Int32.le_iff_toInt_le, ← Int32.toInt_inj, Int32.reduceToInt, n_1, n_2, n_8, Int32.toNatClampNeg, Int64.lt_iff_toInt_lt, Int64.le_iff_toInt_le, ← Int64.toInt_inj, Int64.reduceToInt, Int32.toInt_toInt64, lg_cmp_ge, lg_cmp_le, lg_cmp_gt, lg_cmp_lt, lg_cmp_eq, Bool.false_eq_true, Bool.true_eq_false, reduceCtorEq, false_iff, true_iff, iff_true, iff_false, and_true, true_and, and_false, false_and, reduceIte, ite_true, ite_false, eq_self] at *)) <;> omega), trivial⟩ rfl
set_option maxHeartbeats 4000000 in
theorem sp_X12_bound (G : kG9) {d : Nat} (hd : 3 ≤ d) (σ : St) (a0 : Int32) (r1 : 0 ≤ (gi σ 84 33).toInt ∧ (gi σ 84 33).toInt ≤ 24) (r2 : 0 ≤ (gi σ 84 32).toInt ∧ (gi σ 84 32).toInt ≤ 4) (A_85 : AR ap_85 σ 85) (A_135 : AR ap_135 σ 135) (A_136 : AR ap_136 σ 136) (A_137 : AR ap_137 σ 137) (A_156 : AR ap_156 σ 156) (A_157 : AR ap_157 σ 157) (A_158 : AR ap_158 σ 158) (A_159 : AR ap_159 σ 159) (P_AOK : AOK σ) (P_WOK : WOK σ) : Ct G M_X12_bound d [.ref 84, .int a0] σ (fun r σ' => ∃ x : Int32, r = some (.int x) ∧ Fm [85, 133, 135, 136, 137] [0, 119, 194] σ σ' ∧ AR ap_85 σ' 85 ∧ AR ap_135 σ' 135 ∧ AR ap_136 σ' 136 ∧ AR ap_137 σ' 137 ∧ WOK σ' ∧ True) := by
  refine wa_start (by decide) rfl (Nat.le_of_ble_eq_true rfl) (lv := [(0, .ref 84), (1, .int a0)]) rfl o_X12_bound_0 rfl ?_
  have ua0 := Int32.toInt_lt a0
  have wa0 := Int32.le_toInt a0
  refine wa_aload_n (i := 0) rfl rfl ?_
  refine wa_Vi (d9 := d - 1) [] [] (sp_X12_asks G (d := d - 1) (by omega) σ ) (rfl) rfl rfl (zr (by omega)) mk_X12_asks ly_84 ml_12_871 (Nat.le_of_ble_eq_true rfl) (fun x2 s1 hs1 => ?_)
  obtain ⟨bx2, ex2, fs1, -⟩ := pB hs1
  subst ex2
  have Fs1 : Fm [85, 133, 135, 136, 137] [0, 119, 194] σ s1 := Fm.tr (Fm.rf [85, 133, 135, 136, 137] [0, 119, 194] σ) (Fm.wd fs1 rfl rfl)
  refine wa_if_ne o_X12_bound_10 (by decide) (fun h3 => ?_) (fun h3 => ?_)
  · replace h3 := bI_t (b := bx2) (rfl) h3
    refine wa_aload_n (i := 0) rfl rfl ?_
    refine wa_Vv (d9 := d - 1) [] [] (sp_X12_putOn G (d := d - 1) (by omega) s1  (by rw [Fm.gi fs1 (q := 84) (k := 33) rfl rfl]; first | assumption | exact Or.inl rfl | exact Or.inr rfl | (((try simp only [vp_in_iff, Int32.lt_iff_toInt_lt, Int32.le_iff_toInt_le, ← Int32.toInt_inj, Int32.reduceToInt, n_1, n_2, n_8, Int32.toNatClampNeg, Int64.lt_iff_toInt_lt, Int64.le_iff_toInt_le, ← Int64.toInt_inj, Int64.reduceToInt, Int32.toInt_toInt64, lg_cmp_ge, lg_cmp_le, lg_cmp_gt, lg_cmp_lt, lg_cmp_eq, Bool.false_eq_true, Bool.true_eq_false, reduceCtorEq, false_iff, true_iff, iff_true, iff_false, and_true, true_and, and_false, false_and, reduceIte, ite_true, ite_false, eq_self] at *)) <;> omega)) (ar_fm fs1 rfl rfl A_135) (ar_fm fs1 rfl rfl A_136) (ar_fm fs1 rfl rfl A_137) (ar_fm fs1 rfl rfl A_156) (ar_fm fs1 rfl rfl A_157) (ar_fm fs1 rfl rfl A_158) (ar_fm fs1 rfl rfl A_159) (AOK_of (fun k => Fm.gi fs1 (q := 157) (k := k) rfl rfl) (fun k => Fm.gi fs1 (q := 158) (k := k) rfl rfl) P_AOK) (WOK_of (fun k => Fm.gi fs1 (q := 135) (k := k) rfl rfl) (fun k => Fm.gi fs1 (q := 136) (k := k) rfl rfl) P_WOK)) (rfl) rfl rfl (zr (by omega)) mk_X12_putOn ly_84 ml_12_982 (Nat.le_of_ble_eq_true rfl) (fun s4 hs4 => ?_)
    obtain ⟨fs4, cx5_1, As4_135, As4_136, As4_137, Ps4_WOK, Ps4_INW, -⟩ := hs4
    have Fs4 : Fm [85, 133, 135, 136, 137] [0, 119, 194] σ s4 := Fm.tr Fs1 (Fm.wd fs4 rfl rfl)
    refine wa_lconst (v := 0) (by decide) ?_
    refine wa_lstore_nD (lv' := [(2, .long 0), (0, .ref 84), (1, .int a0)]) (i := 2) rfl (by decide) rfl ?_
    refine wa_lconst (v := 1) (by decide) ?_
    refine wa_lstoreD (lv' := [(4, .long 1), (2, .long 0), (0, .ref 84), (1, .int a0)]) (by decide) rfl ?_
    refine wa_iconst (v := 0) (by decide) ?_
    refine wa_istoreD (lv' := [(6, .int 0), (4, .long 1), (2, .long 0), (0, .ref 84), (1, .int a0)]) (by decide) rfl ?_
    refine wa_pick [3, 4, 2, 1, 0] rfl ?_
    have hi8 : ∀ (n9_22 : Nat) (l2 : Int64) (l4 : Int64) (l6 : Int32) (s6 : St), ((Fm [85, 133, 135, 136, 137] [0, 119, 194] σ s6) ∧ (gi s6 84 33 = gi σ 84 33) ∧ (gi s6 84 32 = gi σ 84 32) ∧ (gi s6 84 119 = gi s4 84 119) ∧ (gi s6 84 194 = gi σ 84 194) ∧ (AR ap_85 s6 85) ∧ (AR ap_135 s6 135) ∧ (AR ap_136 s6 136) ∧ (AR ap_137 s6 137) ∧ (WOK s6) ∧ (0 ≤ l6.toInt) ∧ (0 ≤ l2.toInt ∧ l2.toInt ≤ l6.toInt) ∧ (1 ≤ l4.toInt ∧ l4.toInt ≤ 99999) ∧ (True)) → (2147483647 - l6.toInt).toNat = n9_22 → WA G M_X12_bound (ZM G M_X12_bound d (fun r σ' => ∃ x : Int32, r = some (.int x) ∧ Fm [85, 133, 135, 136, 137] [0, 119, 194] σ σ' ∧ AR ap_85 σ' 85 ∧ AR ap_135 σ' 135 ∧ AR ap_136 σ' 136 ∧ AR ap_137 σ' 137 ∧ WOK σ' ∧ True)) B_X12_bound_22 [(0, .ref 84), (1, .int a0), (2, .long l2), (4, .long l4), (6, .int l6)] [] s6 := by
      intro n9_22
      induction n9_22 using Nat.strongRecOn with
      | _ n9_22 ih7 =>
        intro l2 l4 l6 s6 i9 m9_22
        obtain ⟨Fs6, khi8_0, khi8_1, khi8_2, khi8_3, As6_85, As6_135, As6_136, As6_137, Ps6_WOK, jhi8_0, jhi8_1, jhi8_2, -⟩ := i9
        have ul6 := Int32.toInt_lt l6
        have wl6 := Int32.le_toInt l6
        refine wa_iload rfl ?_
        refine wa_aload_n (i := 0) rfl rfl ?_
        refine wa_geti ck_12 fl_12_928 ly_84 ?_
        refine wa_rw (khi8_2) ?_
        refine wa_icmp_ge o_X12_bound_157 (by decide) (fun h9 => ?_) (fun h9 => ?_)
        · refine wa_lload_n (i := 2) rfl rfl ?_
          refine wa_lconst (v := 0) (by decide) ?_
          refine wa_lcmp ?_
          refine wa_top (fun v10 hv10 => ?_)
          have tv10 := i_cmpT hv10
          clear hv10
          refine wa_if_eq o_X12_bound_174 (by decide) (fun h11 => ?_) (fun h11 => ?_)
          · refine wa_iconst (v := 0) (by decide) ?_
            refine wa_ireturn rfl rfl ?_
            exact ⟨_, rfl, Fs6, As6_85, As6_135, As6_136, As6_137, Ps6_WOK, trivial⟩
          · refine wa_aload_n (i := 0) rfl rfl ?_
            refine wa_geti ck_12 fl_12_815 ly_84 ?_
            refine wa_rw (khi8_1) ?_
            refine wa_if_eq o_X12_bound_174 (by decide) (fun h12 => ?_) (fun h12 => ?_)
            · refine wa_iconst (v := 0) (by decide) ?_
              refine wa_ireturn rfl rfl ?_
              exact ⟨_, rfl, Fs6, As6_85, As6_135, As6_136, As6_137, Ps6_WOK, trivial⟩
            · refine wa_iload_n (i := 1) rfl rfl ?_
              refine wa_if_ge o_X12_bound_176 (by decide) (fun h13 => ?_) (fun h13 => ?_)
              · refine wa_aload_n (i := 0) rfl rfl ?_
                refine wa_getr ck_12 fl_12_456 ly_84 rf_84_193 ?_
                refine wa_iconst (v := 0) (by decide) ?_
                refine wa_aload_n (i := 0) rfl rfl ?_
                refine wa_geti ck_12 fl_12_815 ly_84 ?_
                refine wa_rw (khi8_1) ?_
                refine wa_iast ly_85 (by ((try simp only [vp_in_iff, Int32.lt_iff_toInt_lt, Int32.le_iff_toInt_le, ← Int32.toInt_inj, Int32.reduceToInt, n_1, n_2, n_8, Int32.toNatClampNeg, Int64.lt_iff_toInt_lt, Int64.le_iff_toInt_le, ← Int64.toInt_inj, Int64.reduceToInt, Int32.toInt_toInt64, lg_cmp_ge, lg_cmp_le, lg_cmp_gt, lg_cmp_lt, lg_cmp_eq, Bool.false_eq_true, Bool.true_eq_false, reduceCtorEq, false_iff, true_iff, iff_true, iff_false, and_true, true_and, and_false, false_and, reduceIte, ite_true, ite_false, eq_self] at *)) <;> omega) (fun s14 hs14 => ?_)
                have Fs14 : Fm [85, 133, 135, 136, 137] [0, 119, 194] σ s14 := by rw [hs14]; exact Fm.si Fs6 rfl
                have Vs14 : 0 ≤ ((gi σ 84 32) : Int32).toInt ∧ ((gi σ 84 32) : Int32).toInt ≤ 9999 := by ((try simp only [vp_in_iff, Int32.lt_iff_toInt_lt, Int32.le_iff_toInt_le, ← Int32.toInt_inj, Int32.reduceToInt, n_1, n_2, n_8, Int32.toNatClampNeg, Int64.lt_iff_toInt_lt, Int64.le_iff_toInt_le, ← Int64.toInt_inj, Int64.reduceToInt, Int32.toInt_toInt64, lg_cmp_ge, lg_cmp_le, lg_cmp_gt, lg_cmp_lt, lg_cmp_eq, Bool.false_eq_true, Bool.true_eq_false, reduceCtorEq, false_iff, true_iff, iff_true, iff_false, and_true, true_and, and_false, false_and, reduceIte, ite_true, ite_false, eq_self] at *)) <;> omega
                refine wa_aload_n (i := 0) rfl rfl ?_
                refine wa_iconst (v := 1) (by decide) ?_
                refine wa_puti ck_12 fl_12_1299 ly_84 (fun s15 hs15 => ?_)
                have Fs15 : Fm [85, 133, 135, 136, 137] [0, 119, 194] σ s15 := by rw [hs15]; exact Fm.si Fs14 rfl
                refine wa_lconst (v := 0) (by decide) ?_
                refine wa_lstoreD (lv' := [(6, .long 0), (0, .ref 84), (1, .int a0), (2, .long l2), (4, .long l4)]) (by decide) rfl ?_
                refine wa_pick [1, 2, 3, 4, 0] rfl ?_
                have hi18 : ∀ (n9_194 : Nat) (l6 : Int64) (s16 : St), ((Fm [85, 133, 135, 136, 137] [0, 119, 194] σ s16) ∧ (gi s16 84 33 = gi σ 84 33) ∧ (gi s16 84 32 = gi σ 84 32) ∧ (gi s16 84 119 = gi s4 84 119) ∧ (AR ap_85 s16 85) ∧ (AR ap_135 s16 135) ∧ (AR ap_136 s16 136) ∧ (AR ap_137 s16 137) ∧ (WOK s16) ∧ (0 ≤ l6.toInt ∧ l6.toInt ≤ 1200) ∧ (1 ≤ (gi s16 84 194).toInt ∧ (gi s16 84 194).toInt ≤ 1 + 2 * l6.toInt) ∧ (True)) → (1300 - l6.toInt).toNat = n9_194 → WA G M_X12_bound (ZM G M_X12_bound d (fun r σ' => ∃ x : Int32, r = some (.int x) ∧ Fm [85, 133, 135, 136, 137] [0, 119, 194] σ σ' ∧ AR ap_85 σ' 85 ∧ AR ap_135 σ' 135 ∧ AR ap_136 σ' 136 ∧ AR ap_137 σ' 137 ∧ WOK σ' ∧ True)) B_X12_bound_194 [(0, .ref 84), (1, .int a0), (2, .long l2), (4, .long l4), (6, .long l6)] [] s16 := by
                  intro n9_194
                  induction n9_194 using Nat.strongRecOn with
                  | _ n9_194 ih17 =>
                    intro l6 s16 i9 m9_194
                    obtain ⟨Fs16, khi18_0, khi18_1, khi18_2, As16_85, As16_135, As16_136, As16_137, Ps16_WOK, jhi18_0, jhi18_1, -⟩ := i9
                    refine wa_lload rfl ?_
                    refine wa_ldc2 (v := (2)) (allW_in (kT_13 _ (List.mem_of_getElem? (i := 18) rfl)) rfl) ?_
                    refine wa_lload_n (i := 2) rfl rfl ?_
                    refine wa_lmul ?_
                    refine wa_topl (fun v19 hv19 => ?_)
                    have tv19 := m_l_remU hv19
                    clear hv19
                    refine wa_lcmp ?_
                    refine wa_top (fun v20 hv20 => ?_)
                    have tv20 := i_cmpT hv20
                    clear hv20
                    refine wa_if_gt o_X12_bound_222 (by decide) (fun h21 => ?_) (fun h21 => ?_)
                    · refine wa_iload_n (i := 1) rfl rfl ?_
                      refine wa_iconst (v := 4) (by decide) ?_
                      refine wa_idiv (by ((try simp only [vp_in_iff, Int32.lt_iff_toInt_lt, Int32.le_iff_toInt_le, ← Int32.toInt_inj, Int32.reduceToInt, n_1, n_2, n_8, Int32.toNatClampNeg, Int64.lt_iff_toInt_lt, Int64.le_iff_toInt_le, ← Int64.toInt_inj, Int64.reduceToInt, Int32.toInt_toInt64, lg_cmp_ge, lg_cmp_le, lg_cmp_gt, lg_cmp_lt, lg_cmp_eq, Bool.false_eq_true, Bool.true_eq_false, reduceCtorEq, false_iff, true_iff, iff_true, iff_false, and_true, true_and, and_false, false_and, reduceIte, ite_true, ite_false, eq_self] at *)) <;> omega) ?_
                      refine wa_top (fun v22 hv22 => ?_)
                      have tv22 := i_divU hv22
                      clear hv22
                      refine wa_aload_n (i := 0) rfl rfl ?_
                      refine wa_geti ck_12 fl_12_1299 ly_84 ?_
                      refine wa_icmp_lt o_X12_bound_234 (by decide) (fun h23 => ?_) (fun h23 => ?_)
                      · refine wa_aload_n (i := 0) rfl rfl ?_
                        refine wa_getr ck_12 fl_12_456 ly_84 rf_84_193 ?_
                        refine wa_iload_n (i := 1) rfl rfl ?_
                        refine wa_iconst (v := 4) (by decide) ?_
                        refine wa_idiv (by ((try simp only [vp_in_iff, Int32.lt_iff_toInt_lt, Int32.le_iff_toInt_le, ← Int32.toInt_inj, Int32.reduceToInt, n_1, n_2, n_8, Int32.toNatClampNeg, Int64.lt_iff_toInt_lt, Int64.le_iff_toInt_le, ← Int64.toInt_inj, Int64.reduceToInt, Int32.toInt_toInt64, lg_cmp_ge, lg_cmp_le, lg_cmp_gt, lg_cmp_lt, lg_cmp_eq, Bool.false_eq_true, Bool.true_eq_false, reduceCtorEq, false_iff, true_iff, iff_true, iff_false, and_true, true_and, and_false, false_and, reduceIte, ite_true, ite_false, eq_self] at *)) <;> omega) ?_
                        refine wa_top (fun v24 hv24 => ?_)
                        have tv24 := i_divU hv24
                        clear hv24
                        refine wa_iald ly_85 (by ((try simp only [vp_in_iff, Int32.lt_iff_toInt_lt, Int32.le_iff_toInt_le, ← Int32.toInt_inj, Int32.reduceToInt, n_1, n_2, n_8, Int32.toNatClampNeg, Int64.lt_iff_toInt_lt, Int64.le_iff_toInt_le, ← Int64.toInt_inj, Int64.reduceToInt, Int32.toInt_toInt64, lg_cmp_ge, lg_cmp_le, lg_cmp_gt, lg_cmp_lt, lg_cmp_eq, Bool.false_eq_true, Bool.true_eq_false, reduceCtorEq, false_iff, true_iff, iff_true, iff_false, and_true, true_and, and_false, false_and, reduceIte, ite_true, ite_false, eq_self] at *)) <;> omega) ?_
                        refine wa_top (fun v25 hv25 => ?_)
                        have rv25 : 0 ≤ v25.toInt ∧ v25.toInt ≤ 9999 := by rw [← hv25]; exact ar_at As16_85 _
                        clear hv25
                        refine wa_istoreD (lv' := [(6, .int v25), (0, .ref 84), (1, .int a0), (2, .long l2), (4, .long l4)]) (by decide) rfl ?_
                        refine wa_iconst (v := 0) (by decide) ?_
                        refine wa_istoreD (lv' := [(7, .int 0), (6, .int v25), (0, .ref 84), (1, .int a0), (2, .long l2), (4, .long l4)]) (by decide) rfl ?_
                        refine wa_pick [3, 1, 0] rfl ?_
                        have hi27 : ∀ (n9_247 : Nat) (l6 : Int32) (l7 : Int32), ((0 ≤ l7.toInt) ∧ (True)) → (2147483647 - l7.toInt).toNat = n9_247 → WA G M_X12_bound (ZM G M_X12_bound d (fun r σ' => ∃ x : Int32, r = some (.int x) ∧ Fm [85, 133, 135, 136, 137] [0, 119, 194] σ σ' ∧ AR ap_85 σ' 85 ∧ AR ap_135 σ' 135 ∧ AR ap_136 σ' 136 ∧ AR ap_137 σ' 137 ∧ WOK σ' ∧ True)) B_X12_bound_247 [(1, .int a0), (6, .int l6), (7, .int l7)] [] s16 := by
                          intro n9_247
                          induction n9_247 using Nat.strongRecOn with
                          | _ n9_247 ih26 =>
                            intro l6 l7  i9 m9_247
                            obtain ⟨jhi27_0, -⟩ := i9
                            have ul6 := Int32.toInt_lt l6
                            have wl6 := Int32.le_toInt l6
                            have ul7 := Int32.toInt_lt l7
                            have wl7 := Int32.le_toInt l7
                            refine wa_iload rfl ?_
                            refine wa_iload_n (i := 1) rfl rfl ?_
                            refine wa_iconst (v := 4) (by decide) ?_
                            refine wa_irem (by ((try simp only [vp_in_iff, Int32.lt_iff_toInt_lt, Int32.le_iff_toInt_le, ← Int32.toInt_inj, Int32.reduceToInt, n_1, n_2, n_8, Int32.toNatClampNeg, Int64.lt_iff_toInt_lt, Int64.le_iff_toInt_le, ← Int64.toInt_inj, Int64.reduceToInt, Int32.toInt_toInt64, lg_cmp_ge, lg_cmp_le, lg_cmp_gt, lg_cmp_lt, lg_cmp_eq, Bool.false_eq_true, Bool.true_eq_false, reduceCtorEq, false_iff, true_iff, iff_true, iff_false, and_true, true_and, and_false, false_and, reduceIte, ite_true, ite_false, eq_self] at *)) <;> omega) ?_
                            refine wa_top (fun v28 hv28 => ?_)
                            have tv28 := i_remU hv28
                            clear hv28
                            refine wa_icmp_ge o_X12_bound_268 (by decide) (fun h29 => ?_) (fun h29 => ?_)
                            · refine wa_iload rfl ?_
                              refine wa_bipush (v := 10) (by decide) ?_
                              refine wa_irem (by ((try simp only [vp_in_iff, Int32.lt_iff_toInt_lt, Int32.le_iff_toInt_le, ← Int32.toInt_inj, Int32.reduceToInt, n_1, n_2, n_8, Int32.toNatClampNeg, Int64.lt_iff_toInt_lt, Int64.le_iff_toInt_le, ← Int64.toInt_inj, Int64.reduceToInt, Int32.toInt_toInt64, lg_cmp_ge, lg_cmp_le, lg_cmp_gt, lg_cmp_lt, lg_cmp_eq, Bool.false_eq_true, Bool.true_eq_false, reduceCtorEq, false_iff, true_iff, iff_true, iff_false, and_true, true_and, and_false, false_and, reduceIte, ite_true, ite_false, eq_self] at *)) <;> omega) ?_
                              refine wa_top (fun v30 hv30 => ?_)
                              have tv30 := i_remU hv30
                              clear hv30
                              refine wa_ireturn rfl rfl ?_
                              exact ⟨_, rfl, Fs16, As16_85, As16_135, As16_136, As16_137, Ps16_WOK, trivial⟩
                            · have mh29 := nle_mx h29
                              refine wa_iload rfl ?_
                              refine wa_bipush (v := 10) (by decide) ?_
                              refine wa_idiv (by ((try simp only [vp_in_iff, Int32.lt_iff_toInt_lt, Int32.le_iff_toInt_le, ← Int32.toInt_inj, Int32.reduceToInt, n_1, n_2, n_8, Int32.toNatClampNeg, Int64.lt_iff_toInt_lt, Int64.le_iff_toInt_le, ← Int64.toInt_inj, Int64.reduceToInt, Int32.toInt_toInt64, lg_cmp_ge, lg_cmp_le, lg_cmp_gt, lg_cmp_lt, lg_cmp_eq, Bool.false_eq_true, Bool.true_eq_false, reduceCtorEq, false_iff, true_iff, iff_true, iff_false, and_true, true_and, and_false, false_and, reduceIte, ite_true, ite_false, eq_self] at *)) <;> omega) ?_
                              refine wa_top (fun v31 hv31 => ?_)
                              have tv31 := i_divU hv31
                              clear hv31
                              refine wa_istoreD (lv' := [(6, .int v31), (1, .int a0), (7, .int l7)]) (by decide) rfl ?_
                              refine wa_iinc (v := (1)) (lv' := fun y32 => [(7, .int y32), (6, .int v31), (1, .int a0)]) (by decide) rfl (by decide) (fun _ => rfl) (fun y32 hy32 => ?_)
                              have ty32 := i_addT hy32.symm
                              clear hy32
                              refine wa_goto o_X12_bound_247 (by decide) ?_
                              refine wa_pick [2, 1, 0] rfl ?_
                              exact ih26 _ (by ((try simp only [vp_in_iff, Int32.lt_iff_toInt_lt, Int32.le_iff_toInt_le, ← Int32.toInt_inj, Int32.reduceToInt, n_1, n_2, n_8, Int32.toNatClampNeg, Int64.lt_iff_toInt_lt, Int64.le_iff_toInt_le, ← Int64.toInt_inj, Int64.reduceToInt, Int32.toInt_toInt64, lg_cmp_ge, lg_cmp_le, lg_cmp_gt, lg_cmp_lt, lg_cmp_eq, Bool.false_eq_true, Bool.true_eq_false, reduceCtorEq, false_iff, true_iff, iff_true, iff_false, and_true, true_and, and_false, false_and, reduceIte, ite_true, ite_false, eq_self] at *)) <;> omega) _ _ ⟨(by ((try simp only [vp_in_iff, Int32.lt_iff_toInt_lt, Int32.le_iff_toInt_le, ← Int32.toInt_inj, Int32.reduceToInt, n_1, n_2, n_8, Int32.toNatClampNeg, Int64.lt_iff_toInt_lt, Int64.le_iff_toInt_le, ← Int64.toInt_inj, Int64.reduceToInt, Int32.toInt_toInt64, lg_cmp_ge, lg_cmp_le, lg_cmp_gt, lg_cmp_lt, lg_cmp_eq, Bool.false_eq_true, Bool.true_eq_false, reduceCtorEq, false_iff, true_iff, iff_true, iff_false, and_true, true_and, and_false, false_and, reduceIte, ite_true, ite_false, eq_self] at *)) <;> omega), trivial⟩ rfl
                        exact hi27 _ _ _ ⟨(by ((try simp only [vp_in_iff, Int32.lt_iff_toInt_lt, Int32.le_iff_toInt_le, ← Int32.toInt_inj, Int32.reduceToInt, n_1, n_2, n_8, Int32.toNatClampNeg, Int64.lt_iff_toInt_lt, Int64.le_iff_toInt_le, ← Int64.toInt_inj, Int64.reduceToInt, Int32.toInt_toInt64, lg_cmp_ge, lg_cmp_le, lg_cmp_gt, lg_cmp_lt, lg_cmp_eq, Bool.false_eq_true, Bool.true_eq_false, reduceCtorEq, false_iff, true_iff, iff_true, iff_false, and_true, true_and, and_false, false_and, reduceIte, ite_true, ite_false, eq_self] at *)) <;> omega), trivial⟩ rfl
                      · refine wa_iconst (v := 0) (by decide) ?_
                        refine wa_ireturn rfl rfl ?_
                        exact ⟨_, rfl, Fs16, As16_85, As16_135, As16_136, As16_137, Ps16_WOK, trivial⟩
                    · have mb := mul_bd2 (a := (l2).toInt) (b := (l4).toInt) (m := 576) (n := 99999) (by ((try simp only [vp_in_iff, Int32.lt_iff_toInt_lt, Int32.le_iff_toInt_le, ← Int32.toInt_inj, Int32.reduceToInt, n_1, n_2, n_8, Int32.toNatClampNeg, Int64.lt_iff_toInt_lt, Int64.le_iff_toInt_le, ← Int64.toInt_inj, Int64.reduceToInt, Int32.toInt_toInt64, lg_cmp_ge, lg_cmp_le, lg_cmp_gt, lg_cmp_lt, lg_cmp_eq, Bool.false_eq_true, Bool.true_eq_false, reduceCtorEq, false_iff, true_iff, iff_true, iff_false, and_true, true_and, and_false, false_and, reduceIte, ite_true, ite_false, eq_self] at *)) <;> omega) (by ((try simp only [vp_in_iff, Int32.lt_iff_toInt_lt, Int32.le_iff_toInt_le, ← Int32.toInt_inj, Int32.reduceToInt, n_1, n_2, n_8, Int32.toNatClampNeg, Int64.lt_iff_toInt_lt, Int64.le_iff_toInt_le, ← Int64.toInt_inj, Int64.reduceToInt, Int32.toInt_toInt64, lg_cmp_ge, lg_cmp_le, lg_cmp_gt, lg_cmp_lt, lg_cmp_eq, Bool.false_eq_true, Bool.true_eq_false, reduceCtorEq, false_iff, true_iff, iff_true, iff_false, and_true, true_and, and_false, false_and, reduceIte, ite_true, ite_false, eq_self] at *)) <;> omega) (by ((try simp only [vp_in_iff, Int32.lt_iff_toInt_lt, Int32.le_iff_toInt_le, ← Int32.toInt_inj, Int32.reduceToInt, n_1, n_2, n_8, Int32.toNatClampNeg, Int64.lt_iff_toInt_lt, Int64.le_iff_toInt_le, ← Int64.toInt_inj, Int64.reduceToInt, Int32.toInt_toInt64, lg_cmp_ge, lg_cmp_le, lg_cmp_gt, lg_cmp_lt, lg_cmp_eq, Bool.false_eq_true, Bool.true_eq_false, reduceCtorEq, false_iff, true_iff, iff_true, iff_false, and_true, true_and, and_false, false_and, reduceIte, ite_true, ite_false, eq_self] at *)) <;> omega) (by ((try simp only [vp_in_iff, Int32.lt_iff_toInt_lt, Int32.le_iff_toInt_le, ← Int32.toInt_inj, Int32.reduceToInt, n_1, n_2, n_8, Int32.toNatClampNeg, Int64.lt_iff_toInt_lt, Int64.le_iff_toInt_le, ← Int64.toInt_inj, Int64.reduceToInt, Int32.toInt_toInt64, lg_cmp_ge, lg_cmp_le, lg_cmp_gt, lg_cmp_lt, lg_cmp_eq, Bool.false_eq_true, Bool.true_eq_false, reduceCtorEq, false_iff, true_iff, iff_true, iff_false, and_true, true_and, and_false, false_and, reduceIte, ite_true, ite_false, eq_self] at *)) <;> omega)
                      refine wa_aload_n (i := 0) rfl rfl ?_
                      refine wa_lload_n (i := 2) rfl rfl ?_
                      refine wa_lload rfl ?_
                      refine wa_lmul ?_
                      refine wa_topl (fun v33 hv33 => ?_)
                      have tv33 := m_l_remU hv33
                      clear hv33
                      refine wa_Vv (d9 := d - 1) [.long _] [] (sp_X12_times G (d := d - 1) (by omega) s16 _ (by ((try simp only [vp_in_iff, Int32.lt_iff_toInt_lt, Int32.le_iff_toInt_le, ← Int32.toInt_inj, Int32.reduceToInt, n_1, n_2, n_8, Int32.toNatClampNeg, Int64.lt_iff_toInt_lt, Int64.le_iff_toInt_le, ← Int64.toInt_inj, Int64.reduceToInt, Int32.toInt_toInt64, lg_cmp_ge, lg_cmp_le, lg_cmp_gt, lg_cmp_lt, lg_cmp_eq, Bool.false_eq_true, Bool.true_eq_false, reduceCtorEq, false_iff, true_iff, iff_true, iff_false, and_true, true_and, and_false, false_and, reduceIte, ite_true, ite_false, eq_self] at *)) <;> omega) (by first | assumption | exact Or.inl rfl | exact Or.inr rfl | (((try simp only [vp_in_iff, Int32.lt_iff_toInt_lt, Int32.le_iff_toInt_le, ← Int32.toInt_inj, Int32.reduceToInt, n_1, n_2, n_8, Int32.toNatClampNeg, Int64.lt_iff_toInt_lt, Int64.le_iff_toInt_le, ← Int64.toInt_inj, Int64.reduceToInt, Int32.toInt_toInt64, lg_cmp_ge, lg_cmp_le, lg_cmp_gt, lg_cmp_lt, lg_cmp_eq, Bool.false_eq_true, Bool.true_eq_false, reduceCtorEq, false_iff, true_iff, iff_true, iff_false, and_true, true_and, and_false, false_and, reduceIte, ite_true, ite_false, eq_self] at *)) <;> omega)) As16_85) (rfl) rfl rfl (zr (by omega)) mk_X12_times ly_84 ml_12_1304 (Nat.le_of_ble_eq_true rfl) (fun s34 hs34 => ?_)
                      obtain ⟨fs34, cx35_1, As34_85, -⟩ := hs34
                      have Fs34 : Fm [85, 133, 135, 136, 137] [0, 119, 194] σ s34 := Fm.tr Fs16 (Fm.wd fs34 rfl rfl)
                      refine wa_lload rfl ?_
                      refine wa_lconst (v := 1) (by decide) ?_
                      refine wa_ladd ?_
                      refine wa_topl (fun v36 hv36 => ?_)
                      have tv36 := a_l_remU hv36
                      clear hv36
                      refine wa_lstoreD (lv' := [(6, .long v36), (0, .ref 84), (1, .int a0), (2, .long l2), (4, .long l4)]) (by decide) rfl ?_
                      refine wa_goto o_X12_bound_194 (by decide) ?_
                      refine wa_pick [1, 2, 3, 4, 0] rfl ?_
                      exact ih17 _ (by ((try simp only [vp_in_iff, Int32.lt_iff_toInt_lt, Int32.le_iff_toInt_le, ← Int32.toInt_inj, Int32.reduceToInt, n_1, n_2, n_8, Int32.toNatClampNeg, Int64.lt_iff_toInt_lt, Int64.le_iff_toInt_le, ← Int64.toInt_inj, Int64.reduceToInt, Int32.toInt_toInt64, lg_cmp_ge, lg_cmp_le, lg_cmp_gt, lg_cmp_lt, lg_cmp_eq, Bool.false_eq_true, Bool.true_eq_false, reduceCtorEq, false_iff, true_iff, iff_true, iff_false, and_true, true_and, and_false, false_and, reduceIte, ite_true, ite_false, eq_self] at *)) <;> omega) _ _ ⟨Fs34, ((Fm.gi fs34 (q := 84) (k := 33) rfl rfl).trans (khi18_0)), ((Fm.gi fs34 (q := 84) (k := 32) rfl rfl).trans (khi18_1)), ((Fm.gi fs34 (q := 84) (k := 119) rfl rfl).trans (khi18_2)), As34_85, (ar_fm fs34 rfl rfl As16_135), (ar_fm fs34 rfl rfl As16_136), (ar_fm fs34 rfl rfl As16_137), (WOK_of (fun k => Fm.gi fs34 (q := 135) (k := k) rfl rfl) (fun k => Fm.gi fs34 (q := 136) (k := k) rfl rfl) Ps16_WOK), (by ((try simp only [vp_in_iff, Int32.lt_iff_toInt_lt, Int32.le_iff_toInt_le, ← Int32.toInt_inj, Int32.reduceToInt, n_1, n_2, n_8, Int32.toNatClampNeg, Int64.lt_iff_toInt_lt, Int64.le_iff_toInt_le, ← Int64.toInt_inj, Int64.reduceToInt, Int32.toInt_toInt64, lg_cmp_ge, lg_cmp_le, lg_cmp_gt, lg_cmp_lt, lg_cmp_eq, Bool.false_eq_true, Bool.true_eq_false, reduceCtorEq, false_iff, true_iff, iff_true, iff_false, and_true, true_and, and_false, false_and, reduceIte, ite_true, ite_false, eq_self] at *)) <;> omega), (by first | assumption | (((try simp only [vp_in_iff, Int32.lt_iff_toInt_lt, Int32.le_iff_toInt_le, ← Int32.toInt_inj, Int32.reduceToInt, n_1, n_2, n_8, Int32.toNatClampNeg, Int64.lt_iff_toInt_lt, Int64.le_iff_toInt_le, ← Int64.toInt_inj, Int64.reduceToInt, Int32.toInt_toInt64, lg_cmp_ge, lg_cmp_le, lg_cmp_gt, lg_cmp_lt, lg_cmp_eq, Bool.false_eq_true, Bool.true_eq_false, reduceCtorEq, false_iff, true_iff, iff_true, iff_false, and_true, true_and, and_false, false_and, reduceIte, ite_true, ite_false, eq_self] at *)) <;> omega)), trivial⟩ rfl
                exact hi18 _ _ _ ⟨Fs15, ((nxk_gi_si hs15 (by decide)).trans ((nxq_gi_si hs14 (by decide)).trans (khi8_0))), ((nxk_gi_si hs15 (by decide)).trans ((nxq_gi_si hs14 (by decide)).trans (khi8_1))), ((nxk_gi_si hs15 (by decide)).trans ((nxq_gi_si hs14 (by decide)).trans (khi8_2))), (ar_ni hs15 (by decide) (ar_w hs14 Vs14 As6_85)), (ar_ni hs15 (by decide) (ar_ni hs14 (by decide) As6_135)), (ar_ni hs15 (by decide) (ar_ni hs14 (by decide) As6_136)), (ar_ni hs15 (by decide) (ar_ni hs14 (by decide) As6_137)), (WOK_of (fun k => (nxq_gi_si hs15 (by decide)).trans (nxq_gi_si hs14 (by decide))) (fun k => (nxq_gi_si hs15 (by decide)).trans (nxq_gi_si hs14 (by decide))) Ps6_WOK), (by ((try simp only [vp_in_iff, Int32.lt_iff_toInt_lt, Int32.le_iff_toInt_le, ← Int32.toInt_inj, Int32.reduceToInt, n_1, n_2, n_8, Int32.toNatClampNeg, Int64.lt_iff_toInt_lt, Int64.le_iff_toInt_le, ← Int64.toInt_inj, Int64.reduceToInt, Int32.toInt_toInt64, lg_cmp_ge, lg_cmp_le, lg_cmp_gt, lg_cmp_lt, lg_cmp_eq, Bool.false_eq_true, Bool.true_eq_false, reduceCtorEq, false_iff, true_iff, iff_true, iff_false, and_true, true_and, and_false, false_and, reduceIte, ite_true, ite_false, eq_self] at *)) <;> omega), (by rw [nxe_gi_si hs15]; first | assumption | (((try simp only [vp_in_iff, Int32.lt_iff_toInt_lt, Int32.le_iff_toInt_le, ← Int32.toInt_inj, Int32.reduceToInt, n_1, n_2, n_8, Int32.toNatClampNeg, Int64.lt_iff_toInt_lt, Int64.le_iff_toInt_le, ← Int64.toInt_inj, Int64.reduceToInt, Int32.toInt_toInt64, lg_cmp_ge, lg_cmp_le, lg_cmp_gt, lg_cmp_lt, lg_cmp_eq, Bool.false_eq_true, Bool.true_eq_false, reduceCtorEq, false_iff, true_iff, iff_true, iff_false, and_true, true_and, and_false, false_and, reduceIte, ite_true, ite_false, eq_self] at *)) <;> omega)), trivial⟩ rfl
              · refine wa_iconst (v := 0) (by decide) ?_
                refine wa_ireturn rfl rfl ?_
                exact ⟨_, rfl, Fs6, As6_85, As6_135, As6_136, As6_137, Ps6_WOK, trivial⟩
        · have mh9 := nle_mx h9
          refine wa_aload_n (i := 0) rfl rfl ?_
          refine wa_getr ck_12 fl_12_298 ly_84 rf_84_118 ?_
          refine wa_iload rfl ?_
          refine wa_iald ly_135 (by ((try simp only [vp_in_iff, Int32.lt_iff_toInt_lt, Int32.le_iff_toInt_le, ← Int32.toInt_inj, Int32.reduceToInt, n_1, n_2, n_8, Int32.toNatClampNeg, Int64.lt_iff_toInt_lt, Int64.le_iff_toInt_le, ← Int64.toInt_inj, Int64.reduceToInt, Int32.toInt_toInt64, lg_cmp_ge, lg_cmp_le, lg_cmp_gt, lg_cmp_lt, lg_cmp_eq, Bool.false_eq_true, Bool.true_eq_false, reduceCtorEq, false_iff, true_iff, iff_true, iff_false, and_true, true_and, and_false, false_and, reduceIte, ite_true, ite_false, eq_self] at *)) <;> omega) ?_
          refine wa_top (fun v37 hv37 => ?_)
          have rv37 : 0 ≤ v37.toInt ∧ v37.toInt ≤ 12 := by rw [← hv37]; exact ar_at As6_135 _
          clear hv37
          refine wa_if_ne o_X12_bound_151 (by decide) (fun h38 => ?_) (fun h38 => ?_)
          · refine wa_iinc (v := (1)) (lv' := fun y39 => [(6, .int y39), (0, .ref 84), (1, .int a0), (2, .long l2), (4, .long l4)]) (by decide) rfl (by decide) (fun _ => rfl) (fun y39 hy39 => ?_)
            have ty39 := i_addT hy39.symm
            clear hy39
            refine wa_goto o_X12_bound_22 (by decide) ?_
            refine wa_pick [1, 2, 3, 4, 0] rfl ?_
            exact ih7 _ (by ((try simp only [vp_in_iff, Int32.lt_iff_toInt_lt, Int32.le_iff_toInt_le, ← Int32.toInt_inj, Int32.reduceToInt, n_1, n_2, n_8, Int32.toNatClampNeg, Int64.lt_iff_toInt_lt, Int64.le_iff_toInt_le, ← Int64.toInt_inj, Int64.reduceToInt, Int32.toInt_toInt64, lg_cmp_ge, lg_cmp_le, lg_cmp_gt, lg_cmp_lt, lg_cmp_eq, Bool.false_eq_true, Bool.true_eq_false, reduceCtorEq, false_iff, true_iff, iff_true, iff_false, and_true, true_and, and_false, false_and, reduceIte, ite_true, ite_false, eq_self] at *)) <;> omega) _ _ _ _ ⟨Fs6, (khi8_0), (khi8_1), (khi8_2), (khi8_3), As6_85, As6_135, As6_136, As6_137, Ps6_WOK, (by ((try simp only [vp_in_iff, Int32.lt_iff_toInt_lt, Int32.le_iff_toInt_le, ← Int32.toInt_inj, Int32.reduceToInt, n_1, n_2, n_8, Int32.toNatClampNeg, Int64.lt_iff_toInt_lt, Int64.le_iff_toInt_le, ← Int64.toInt_inj, Int64.reduceToInt, Int32.toInt_toInt64, lg_cmp_ge, lg_cmp_le, lg_cmp_gt, lg_cmp_lt, lg_cmp_eq, Bool.false_eq_true, Bool.true_eq_false, reduceCtorEq, false_iff, true_iff, iff_true, iff_false, and_true, true_and, and_false, false_and, reduceIte, ite_true, ite_false, eq_self] at *)) <;> omega), (by ((try simp only [vp_in_iff, Int32.lt_iff_toInt_lt, Int32.le_iff_toInt_le, ← Int32.toInt_inj, Int32.reduceToInt, n_1, n_2, n_8, Int32.toNatClampNeg, Int64.lt_iff_toInt_lt, Int64.le_iff_toInt_le, ← Int64.toInt_inj, Int64.reduceToInt, Int32.toInt_toInt64, lg_cmp_ge, lg_cmp_le, lg_cmp_gt, lg_cmp_lt, lg_cmp_eq, Bool.false_eq_true, Bool.true_eq_false, reduceCtorEq, false_iff, true_iff, iff_true, iff_false, and_true, true_and, and_false, false_and, reduceIte, ite_true, ite_false, eq_self] at *)) <;> omega), (by ((try simp only [vp_in_iff, Int32.lt_iff_toInt_lt, Int32.le_iff_toInt_le, ← Int32.toInt_inj, Int32.reduceToInt, n_1, n_2, n_8, Int32.toNatClampNeg, Int64.lt_iff_toInt_lt, Int64.le_iff_toInt_le, ← Int64.toInt_inj, Int64.reduceToInt, Int32.toInt_toInt64, lg_cmp_ge, lg_cmp_le, lg_cmp_gt, lg_cmp_lt, lg_cmp_eq, Bool.false_eq_true, Bool.true_eq_false, reduceCtorEq, false_iff, true_iff, iff_true, iff_false, and_true, true_and, and_false, false_and, reduceIte, ite_true, ite_false, eq_self] at *)) <;> omega), trivial⟩ rfl
          · refine wa_lload_n (i := 2) rfl rfl ?_
            refine wa_lconst (v := 1) (by decide) ?_
            refine wa_ladd ?_
            refine wa_topl (fun v40 hv40 => ?_)
            have tv40 := a_l_remU hv40
            clear hv40
            refine wa_lstore_nD (lv' := [(2, .long v40), (0, .ref 84), (1, .int a0), (4, .long l4), (6, .int l6)]) (i := 2) rfl (by decide) rfl ?_
            refine wa_lload rfl ?_
            refine wa_aload_n (i := 0) rfl rfl ?_
            refine wa_getr ck_12 fl_12_295 ly_84 rf_84_117 ?_
            refine wa_iload rfl ?_
            refine wa_iald ly_136 (by ((try simp only [vp_in_iff, Int32.lt_iff_toInt_lt, Int32.le_iff_toInt_le, ← Int32.toInt_inj, Int32.reduceToInt, n_1, n_2, n_8, Int32.toNatClampNeg, Int64.lt_iff_toInt_lt, Int64.le_iff_toInt_le, ← Int64.toInt_inj, Int64.reduceToInt, Int32.toInt_toInt64, lg_cmp_ge, lg_cmp_le, lg_cmp_gt, lg_cmp_lt, lg_cmp_eq, Bool.false_eq_true, Bool.true_eq_false, reduceCtorEq, false_iff, true_iff, iff_true, iff_false, and_true, true_and, and_false, false_and, reduceIte, ite_true, ite_false, eq_self] at *)) <;> omega) ?_
            refine wa_top (fun v41 hv41 => ?_)
            have rv41 : -99999 ≤ v41.toInt ∧ v41.toInt ≤ 99999 := by rw [← hv41]; exact ar_at As6_136 _
            clear hv41
            refine wa_if_ge o_X12_bound_70 (by decide) (fun h42 => ?_) (fun h42 => ?_)
            · refine wa_aload_n (i := 0) rfl rfl ?_
              refine wa_getr ck_12 fl_12_295 ly_84 rf_84_117 ?_
              refine wa_iload rfl ?_
              refine wa_iald ly_136 (by ((try simp only [vp_in_iff, Int32.lt_iff_toInt_lt, Int32.le_iff_toInt_le, ← Int32.toInt_inj, Int32.reduceToInt, n_1, n_2, n_8, Int32.toNatClampNeg, Int64.lt_iff_toInt_lt, Int64.le_iff_toInt_le, ← Int64.toInt_inj, Int64.reduceToInt, Int32.toInt_toInt64, lg_cmp_ge, lg_cmp_le, lg_cmp_gt, lg_cmp_lt, lg_cmp_eq, Bool.false_eq_true, Bool.true_eq_false, reduceCtorEq, false_iff, true_iff, iff_true, iff_false, and_true, true_and, and_false, false_and, reduceIte, ite_true, ite_false, eq_self] at *)) <;> omega) ?_
              refine wa_top (fun v43 hv43 => ?_)
              have rv43 : -99999 ≤ v43.toInt ∧ v43.toInt ≤ 99999 := by rw [← hv43]; exact ar_at As6_136 _
              clear hv43
              refine wa_i2l ?_
              refine wa_Sl (d9 := d - 1) [.long _, .long _] [] (sp_X12_max G (d := d - 1) (by omega) s6 _ _) (rfl) rfl rfl (zr (by omega)) mk_X12_max ml_12_1009 (Nat.le_of_ble_eq_true rfl) (fun x45 s44 hs44 => ?_)
              obtain ⟨zs44, cx45_1, -⟩ := pL hs44
              subst zs44
              refine wa_lstoreD (lv' := [(4, .long x45), (2, .long v40), (0, .ref 84), (1, .int a0), (6, .int l6)]) (by decide) rfl ?_
              refine wa_iconst (v := 0) (by decide) ?_
              refine wa_istoreD (lv' := [(7, .int 0), (4, .long x45), (2, .long v40), (0, .ref 84), (1, .int a0), (6, .int l6)]) (by decide) rfl ?_
              refine wa_pick [3, 4, 2, 1, 5, 0] rfl ?_
              have hi48 : ∀ (n9_86 : Nat) (l4 : Int64) (l7 : Int32) (s46 : St), ((Fm [85, 133, 135, 136, 137] [0, 119, 194] σ s46) ∧ (gi s46 84 33 = gi σ 84 33) ∧ (gi s46 84 32 = gi σ 84 32) ∧ (gi s46 84 119 = gi s4 84 119) ∧ (gi s46 84 194 = gi σ 84 194) ∧ (AR ap_85 s46 85) ∧ (AR ap_135 s46 135) ∧ (AR ap_136 s46 136) ∧ (AR ap_137 s46 137) ∧ (WOK s46) ∧ (0 ≤ l7.toInt) ∧ (1 ≤ l4.toInt ∧ l4.toInt ≤ 99999) ∧ (True)) → (2147483647 - l7.toInt).toNat = n9_86 → WA G M_X12_bound (ZM G M_X12_bound d (fun r σ' => ∃ x : Int32, r = some (.int x) ∧ Fm [85, 133, 135, 136, 137] [0, 119, 194] σ σ' ∧ AR ap_85 σ' 85 ∧ AR ap_135 σ' 135 ∧ AR ap_136 σ' 136 ∧ AR ap_137 σ' 137 ∧ WOK σ' ∧ True)) B_X12_bound_86 [(0, .ref 84), (1, .int a0), (2, .long v40), (4, .long l4), (6, .int l6), (7, .int l7)] [] s46 := by
                intro n9_86
                induction n9_86 using Nat.strongRecOn with
                | _ n9_86 ih47 =>
                  intro l4 l7 s46 i9 m9_86
                  obtain ⟨Fs46, khi48_0, khi48_1, khi48_2, khi48_3, As46_85, As46_135, As46_136, As46_137, Ps46_WOK, jhi48_0, jhi48_1, -⟩ := i9
                  have ul7 := Int32.toInt_lt l7
                  have wl7 := Int32.le_toInt l7
                  refine wa_iload rfl ?_
                  refine wa_iconst (v := 4) (by decide) ?_
                  refine wa_icmp_ge o_X12_bound_151 (by decide) (fun h49 => ?_) (fun h49 => ?_)
                  · refine wa_iinc (v := (1)) (lv' := fun y50 => [(6, .int y50), (0, .ref 84), (1, .int a0), (2, .long v40), (4, .long l4), (7, .int l7)]) (by decide) rfl (by decide) (fun _ => rfl) (fun y50 hy50 => ?_)
                    have ty50 := i_addT hy50.symm
                    clear hy50
                    refine wa_goto o_X12_bound_22 (by decide) ?_
                    refine wa_pick [1, 2, 3, 4, 0] rfl ?_
                    exact ih7 _ (by ((try simp only [vp_in_iff, Int32.lt_iff_toInt_lt, Int32.le_iff_toInt_le, ← Int32.toInt_inj, Int32.reduceToInt, n_1, n_2, n_8, Int32.toNatClampNeg, Int64.lt_iff_toInt_lt, Int64.le_iff_toInt_le, ← Int64.toInt_inj, Int64.reduceToInt, Int32.toInt_toInt64, lg_cmp_ge, lg_cmp_le, lg_cmp_gt, lg_cmp_lt, lg_cmp_eq, Bool.false_eq_true, Bool.true_eq_false, reduceCtorEq, false_iff, true_iff, iff_true, iff_false, and_true, true_and, and_false, false_and, reduceIte, ite_true, ite_false, eq_self] at *)) <;> omega) _ _ _ _ ⟨Fs46, (khi48_0), (khi48_1), (khi48_2), (khi48_3), As46_85, As46_135, As46_136, As46_137, Ps46_WOK, (by ((try simp only [vp_in_iff, Int32.lt_iff_toInt_lt, Int32.le_iff_toInt_le, ← Int32.toInt_inj, Int32.reduceToInt, n_1, n_2, n_8, Int32.toNatClampNeg, Int64.lt_iff_toInt_lt, Int64.le_iff_toInt_le, ← Int64.toInt_inj, Int64.reduceToInt, Int32.toInt_toInt64, lg_cmp_ge, lg_cmp_le, lg_cmp_gt, lg_cmp_lt, lg_cmp_eq, Bool.false_eq_true, Bool.true_eq_false, reduceCtorEq, false_iff, true_iff, iff_true, iff_false, and_true, true_and, and_false, false_and, reduceIte, ite_true, ite_false, eq_self] at *)) <;> omega), (by ((try simp only [vp_in_iff, Int32.lt_iff_toInt_lt, Int32.le_iff_toInt_le, ← Int32.toInt_inj, Int32.reduceToInt, n_1, n_2, n_8, Int32.toNatClampNeg, Int64.lt_iff_toInt_lt, Int64.le_iff_toInt_le, ← Int64.toInt_inj, Int64.reduceToInt, Int32.toInt_toInt64, lg_cmp_ge, lg_cmp_le, lg_cmp_gt, lg_cmp_lt, lg_cmp_eq, Bool.false_eq_true, Bool.true_eq_false, reduceCtorEq, false_iff, true_iff, iff_true, iff_false, and_true, true_and, and_false, false_and, reduceIte, ite_true, ite_false, eq_self] at *)) <;> omega), (by ((try simp only [vp_in_iff, Int32.lt_iff_toInt_lt, Int32.le_iff_toInt_le, ← Int32.toInt_inj, Int32.reduceToInt, n_1, n_2, n_8, Int32.toNatClampNeg, Int64.lt_iff_toInt_lt, Int64.le_iff_toInt_le, ← Int64.toInt_inj, Int64.reduceToInt, Int32.toInt_toInt64, lg_cmp_ge, lg_cmp_le, lg_cmp_gt, lg_cmp_lt, lg_cmp_eq, Bool.false_eq_true, Bool.true_eq_false, reduceCtorEq, false_iff, true_iff, iff_true, iff_false, and_true, true_and, and_false, false_and, reduceIte, ite_true, ite_false, eq_self] at *)) <;> omega), trivial⟩ rfl
                  · have mh49 := nle_mx h49
                    refine wa_lload rfl ?_
                    refine wa_aload_n (i := 0) rfl rfl ?_
                    refine wa_getr ck_12 fl_12_292 ly_84 rf_84_116 ?_
                    refine wa_iconst (v := 4) (by decide) ?_
                    refine wa_iload rfl ?_
                    refine wa_imul ?_
                    refine wa_top (fun v51 hv51 => ?_)
                    have tv51 := i_mulT hv51
                    clear hv51
                    refine wa_iload rfl ?_
                    refine wa_iadd ?_
                    refine wa_top (fun v52 hv52 => ?_)
                    have tv52 := i_addT hv52
                    clear hv52
                    refine wa_iald ly_137 (by ((try simp only [vp_in_iff, Int32.lt_iff_toInt_lt, Int32.le_iff_toInt_le, ← Int32.toInt_inj, Int32.reduceToInt, n_1, n_2, n_8, Int32.toNatClampNeg, Int64.lt_iff_toInt_lt, Int64.le_iff_toInt_le, ← Int64.toInt_inj, Int64.reduceToInt, Int32.toInt_toInt64, lg_cmp_ge, lg_cmp_le, lg_cmp_gt, lg_cmp_lt, lg_cmp_eq, Bool.false_eq_true, Bool.true_eq_false, reduceCtorEq, false_iff, true_iff, iff_true, iff_false, and_true, true_and, and_false, false_and, reduceIte, ite_true, ite_false, eq_self] at *)) <;> omega) ?_
                    refine wa_top (fun v53 hv53 => ?_)
                    have rv53 : -20 ≤ v53.toInt ∧ v53.toInt ≤ 20 := by rw [← hv53]; exact ar_at As46_137 _
                    clear hv53
                    refine wa_if_ge o_X12_bound_127 (by decide) (fun h54 => ?_) (fun h54 => ?_)
                    · refine wa_aload_n (i := 0) rfl rfl ?_
                      refine wa_getr ck_12 fl_12_292 ly_84 rf_84_116 ?_
                      refine wa_iconst (v := 4) (by decide) ?_
                      refine wa_iload rfl ?_
                      refine wa_imul ?_
                      refine wa_top (fun v55 hv55 => ?_)
                      have tv55 := i_mulT hv55
                      clear hv55
                      refine wa_iload rfl ?_
                      refine wa_iadd ?_
                      refine wa_top (fun v56 hv56 => ?_)
                      have tv56 := i_addT hv56
                      clear hv56
                      refine wa_iald ly_137 (by ((try simp only [vp_in_iff, Int32.lt_iff_toInt_lt, Int32.le_iff_toInt_le, ← Int32.toInt_inj, Int32.reduceToInt, n_1, n_2, n_8, Int32.toNatClampNeg, Int64.lt_iff_toInt_lt, Int64.le_iff_toInt_le, ← Int64.toInt_inj, Int64.reduceToInt, Int32.toInt_toInt64, lg_cmp_ge, lg_cmp_le, lg_cmp_gt, lg_cmp_lt, lg_cmp_eq, Bool.false_eq_true, Bool.true_eq_false, reduceCtorEq, false_iff, true_iff, iff_true, iff_false, and_true, true_and, and_false, false_and, reduceIte, ite_true, ite_false, eq_self] at *)) <;> omega) ?_
                      refine wa_top (fun v57 hv57 => ?_)
                      have rv57 : -20 ≤ v57.toInt ∧ v57.toInt ≤ 20 := by rw [← hv57]; exact ar_at As46_137 _
                      clear hv57
                      refine wa_i2l ?_
                      refine wa_Sl (d9 := d - 1) [.long _, .long _] [] (sp_X12_max G (d := d - 1) (by omega) s46 _ _) (rfl) rfl rfl (zr (by omega)) mk_X12_max ml_12_1009 (Nat.le_of_ble_eq_true rfl) (fun x59 s58 hs58 => ?_)
                      obtain ⟨zs58, cx59_1, -⟩ := pL hs58
                      subst zs58
                      refine wa_lstoreD (lv' := [(4, .long x59), (0, .ref 84), (1, .int a0), (2, .long v40), (6, .int l6), (7, .int l7)]) (by decide) rfl ?_
                      refine wa_iinc (v := (1)) (lv' := fun y60 => [(7, .int y60), (4, .long x59), (0, .ref 84), (1, .int a0), (2, .long v40), (6, .int l6)]) (by decide) rfl (by decide) (fun _ => rfl) (fun y60 hy60 => ?_)
                      have ty60 := i_addT hy60.symm
                      clear hy60
                      refine wa_goto o_X12_bound_86 (by decide) ?_
                      refine wa_pick [2, 3, 4, 1, 5, 0] rfl ?_
                      exact ih47 _ (by ((try simp only [vp_in_iff, Int32.lt_iff_toInt_lt, Int32.le_iff_toInt_le, ← Int32.toInt_inj, Int32.reduceToInt, n_1, n_2, n_8, Int32.toNatClampNeg, Int64.lt_iff_toInt_lt, Int64.le_iff_toInt_le, ← Int64.toInt_inj, Int64.reduceToInt, Int32.toInt_toInt64, lg_cmp_ge, lg_cmp_le, lg_cmp_gt, lg_cmp_lt, lg_cmp_eq, Bool.false_eq_true, Bool.true_eq_false, reduceCtorEq, false_iff, true_iff, iff_true, iff_false, and_true, true_and, and_false, false_and, reduceIte, ite_true, ite_false, eq_self] at *)) <;> omega) _ _ _ ⟨Fs46, (khi48_0), (khi48_1), (khi48_2), (khi48_3), As46_85, As46_135, As46_136, As46_137, Ps46_WOK, (by ((try simp only [vp_in_iff, Int32.lt_iff_toInt_lt, Int32.le_iff_toInt_le, ← Int32.toInt_inj, Int32.reduceToInt, n_1, n_2, n_8, Int32.toNatClampNeg, Int64.lt_iff_toInt_lt, Int64.le_iff_toInt_le, ← Int64.toInt_inj, Int64.reduceToInt, Int32.toInt_toInt64, lg_cmp_ge, lg_cmp_le, lg_cmp_gt, lg_cmp_lt, lg_cmp_eq, Bool.false_eq_true, Bool.true_eq_false, reduceCtorEq, false_iff, true_iff, iff_true, iff_false, and_true, true_and, and_false, false_and, reduceIte, ite_true, ite_false, eq_self] at *)) <;> omega), (by ((try simp only [vp_in_iff, Int32.lt_iff_toInt_lt, Int32.le_iff_toInt_le, ← Int32.toInt_inj, Int32.reduceToInt, n_1, n_2, n_8, Int32.toNatClampNeg, Int64.lt_iff_toInt_lt, Int64.le_iff_toInt_le, ← Int64.toInt_inj, Int64.reduceToInt, Int32.toInt_toInt64, lg_cmp_ge, lg_cmp_le, lg_cmp_gt, lg_cmp_lt, lg_cmp_eq, Bool.false_eq_true, Bool.true_eq_false, reduceCtorEq, false_iff, true_iff, iff_true, iff_false, and_true, true_and, and_false, false_and, reduceIte, ite_true, ite_false, eq_self] at *)) <;> omega), trivial⟩ rfl
                    · refine wa_iconst (v := 0) (by decide) ?_
                      refine wa_aload_n (i := 0) rfl rfl ?_
                      refine wa_getr ck_12 fl_12_292 ly_84 rf_84_116 ?_
                      refine wa_iconst (v := 4) (by decide) ?_
                      refine wa_iload rfl ?_
                      refine wa_imul ?_
                      refine wa_top (fun v61 hv61 => ?_)
                      have tv61 := i_mulT hv61
                      clear hv61
                      refine wa_iload rfl ?_
                      refine wa_iadd ?_
                      refine wa_top (fun v62 hv62 => ?_)
                      have tv62 := i_addT hv62
                      clear hv62
                      refine wa_iald ly_137 (by ((try simp only [vp_in_iff, Int32.lt_iff_toInt_lt, Int32.le_iff_toInt_le, ← Int32.toInt_inj, Int32.reduceToInt, n_1, n_2, n_8, Int32.toNatClampNeg, Int64.lt_iff_toInt_lt, Int64.le_iff_toInt_le, ← Int64.toInt_inj, Int64.reduceToInt, Int32.toInt_toInt64, lg_cmp_ge, lg_cmp_le, lg_cmp_gt, lg_cmp_lt, lg_cmp_eq, Bool.false_eq_true, Bool.true_eq_false, reduceCtorEq, false_iff, true_iff, iff_true, iff_false, and_true, true_and, and_false, false_and, reduceIte, ite_true, ite_false, eq_self] at *)) <;> omega) ?_
                      refine wa_top (fun v63 hv63 => ?_)
                      have rv63 : -20 ≤ v63.toInt ∧ v63.toInt ≤ 20 := by rw [← hv63]; exact ar_at As46_137 _
                      clear hv63
                      refine wa_isub ?_
                      refine wa_top (fun v64 hv64 => ?_)
                      have tv64 := i_subT hv64
                      clear hv64
                      refine wa_i2l ?_
                      refine wa_goto o_X12_bound_140 (by decide) ?_
                      refine wa_Sl (d9 := d - 1) [.long _, .long _] [] (sp_X12_max G (d := d - 1) (by omega) s46 _ _) (rfl) rfl rfl (zr (by omega)) mk_X12_max ml_12_1009 (Nat.le_of_ble_eq_true rfl) (fun x66 s65 hs65 => ?_)
                      obtain ⟨zs65, cx66_1, -⟩ := pL hs65
                      subst zs65
                      refine wa_lstoreD (lv' := [(4, .long x66), (0, .ref 84), (1, .int a0), (2, .long v40), (6, .int l6), (7, .int l7)]) (by decide) rfl ?_
                      refine wa_iinc (v := (1)) (lv' := fun y67 => [(7, .int y67), (4, .long x66), (0, .ref 84), (1, .int a0), (2, .long v40), (6, .int l6)]) (by decide) rfl (by decide) (fun _ => rfl) (fun y67 hy67 => ?_)
                      have ty67 := i_addT hy67.symm
                      clear hy67
                      refine wa_goto o_X12_bound_86 (by decide) ?_
                      refine wa_pick [2, 3, 4, 1, 5, 0] rfl ?_
                      exact ih47 _ (by ((try simp only [vp_in_iff, Int32.lt_iff_toInt_lt, Int32.le_iff_toInt_le, ← Int32.toInt_inj, Int32.reduceToInt, n_1, n_2, n_8, Int32.toNatClampNeg, Int64.lt_iff_toInt_lt, Int64.le_iff_toInt_le, ← Int64.toInt_inj, Int64.reduceToInt, Int32.toInt_toInt64, lg_cmp_ge, lg_cmp_le, lg_cmp_gt, lg_cmp_lt, lg_cmp_eq, Bool.false_eq_true, Bool.true_eq_false, reduceCtorEq, false_iff, true_iff, iff_true, iff_false, and_true, true_and, and_false, false_and, reduceIte, ite_true, ite_false, eq_self] at *)) <;> omega) _ _ _ ⟨Fs46, (khi48_0), (khi48_1), (khi48_2), (khi48_3), As46_85, As46_135, As46_136, As46_137, Ps46_WOK, (by ((try simp only [vp_in_iff, Int32.lt_iff_toInt_lt, Int32.le_iff_toInt_le, ← Int32.toInt_inj, Int32.reduceToInt, n_1, n_2, n_8, Int32.toNatClampNeg, Int64.lt_iff_toInt_lt, Int64.le_iff_toInt_le, ← Int64.toInt_inj, Int64.reduceToInt, Int32.toInt_toInt64, lg_cmp_ge, lg_cmp_le, lg_cmp_gt, lg_cmp_lt, lg_cmp_eq, Bool.false_eq_true, Bool.true_eq_false, reduceCtorEq, false_iff, true_iff, iff_true, iff_false, and_true, true_and, and_false, false_and, reduceIte, ite_true, ite_false, eq_self] at *)) <;> omega), (by ((try simp only [vp_in_iff, Int32.lt_iff_toInt_lt, Int32.le_iff_toInt_le, ← Int32.toInt_inj, Int32.reduceToInt, n_1, n_2, n_8, Int32.toNatClampNeg, Int64.lt_iff_toInt_lt, Int64.le_iff_toInt_le, ← Int64.toInt_inj, Int64.reduceToInt, Int32.toInt_toInt64, lg_cmp_ge, lg_cmp_le, lg_cmp_gt, lg_cmp_lt, lg_cmp_eq, Bool.false_eq_true, Bool.true_eq_false, reduceCtorEq, false_iff, true_iff, iff_true, iff_false, and_true, true_and, and_false, false_and, reduceIte, ite_true, ite_false, eq_self] at *)) <;> omega), trivial⟩ rfl
              exact hi48 _ _ _ _ ⟨Fs6, (khi8_0), (khi8_1), (khi8_2), (khi8_3), As6_85, As6_135, As6_136, As6_137, Ps6_WOK, (by ((try simp only [vp_in_iff, Int32.lt_iff_toInt_lt, Int32.le_iff_toInt_le, ← Int32.toInt_inj, Int32.reduceToInt, n_1, n_2, n_8, Int32.toNatClampNeg, Int64.lt_iff_toInt_lt, Int64.le_iff_toInt_le, ← Int64.toInt_inj, Int64.reduceToInt, Int32.toInt_toInt64, lg_cmp_ge, lg_cmp_le, lg_cmp_gt, lg_cmp_lt, lg_cmp_eq, Bool.false_eq_true, Bool.true_eq_false, reduceCtorEq, false_iff, true_iff, iff_true, iff_false, and_true, true_and, and_false, false_and, reduceIte, ite_true, ite_false, eq_self] at *)) <;> omega), (by ((try simp only [vp_in_iff, Int32.lt_iff_toInt_lt, Int32.le_iff_toInt_le, ← Int32.toInt_inj, Int32.reduceToInt, n_1, n_2, n_8, Int32.toNatClampNeg, Int64.lt_iff_toInt_lt, Int64.le_iff_toInt_le, ← Int64.toInt_inj, Int64.reduceToInt, Int32.toInt_toInt64, lg_cmp_ge, lg_cmp_le, lg_cmp_gt, lg_cmp_lt, lg_cmp_eq, Bool.false_eq_true, Bool.true_eq_false, reduceCtorEq, false_iff, true_iff, iff_true, iff_false, and_true, true_and, and_false, false_and, reduceIte, ite_true, ite_false, eq_self] at *)) <;> omega), trivial⟩ rfl
            · refine wa_iconst (v := 0) (by decide) ?_
              refine wa_aload_n (i := 0) rfl rfl ?_
              refine wa_getr ck_12 fl_12_295 ly_84 rf_84_117 ?_
              refine wa_iload rfl ?_
              refine wa_iald ly_136 (by ((try simp only [vp_in_iff, Int32.lt_iff_toInt_lt, Int32.le_iff_toInt_le, ← Int32.toInt_inj, Int32.reduceToInt, n_1, n_2, n_8, Int32.toNatClampNeg, Int64.lt_iff_toInt_lt, Int64.le_iff_toInt_le, ← Int64.toInt_inj, Int64.reduceToInt, Int32.toInt_toInt64, lg_cmp_ge, lg_cmp_le, lg_cmp_gt, lg_cmp_lt, lg_cmp_eq, Bool.false_eq_true, Bool.true_eq_false, reduceCtorEq, false_iff, true_iff, iff_true, iff_false, and_true, true_and, and_false, false_and, reduceIte, ite_true, ite_false, eq_self] at *)) <;> omega) ?_
              refine wa_top (fun v68 hv68 => ?_)
              have rv68 : -99999 ≤ v68.toInt ∧ v68.toInt ≤ 99999 := by rw [← hv68]; exact ar_at As6_136 _
              clear hv68
              refine wa_isub ?_
              refine wa_top (fun v69 hv69 => ?_)
              have tv69 := i_subT hv69
              clear hv69
              refine wa_i2l ?_
              refine wa_goto o_X12_bound_78 (by decide) ?_
              refine wa_Sl (d9 := d - 1) [.long _, .long _] [] (sp_X12_max G (d := d - 1) (by omega) s6 _ _) (rfl) rfl rfl (zr (by omega)) mk_X12_max ml_12_1009 (Nat.le_of_ble_eq_true rfl) (fun x71 s70 hs70 => ?_)
              obtain ⟨zs70, cx71_1, -⟩ := pL hs70
              subst zs70
              refine wa_lstoreD (lv' := [(4, .long x71), (2, .long v40), (0, .ref 84), (1, .int a0), (6, .int l6)]) (by decide) rfl ?_
              refine wa_iconst (v := 0) (by decide) ?_
              refine wa_istoreD (lv' := [(7, .int 0), (4, .long x71), (2, .long v40), (0, .ref 84), (1, .int a0), (6, .int l6)]) (by decide) rfl ?_
              refine wa_pick [3, 4, 2, 1, 5, 0] rfl ?_
              have hi74 : ∀ (n9_86 : Nat) (l4 : Int64) (l7 : Int32) (s72 : St), ((Fm [85, 133, 135, 136, 137] [0, 119, 194] σ s72) ∧ (gi s72 84 33 = gi σ 84 33) ∧ (gi s72 84 32 = gi σ 84 32) ∧ (gi s72 84 119 = gi s4 84 119) ∧ (gi s72 84 194 = gi σ 84 194) ∧ (AR ap_85 s72 85) ∧ (AR ap_135 s72 135) ∧ (AR ap_136 s72 136) ∧ (AR ap_137 s72 137) ∧ (WOK s72) ∧ (0 ≤ l7.toInt) ∧ (1 ≤ l4.toInt ∧ l4.toInt ≤ 99999) ∧ (True)) → (2147483647 - l7.toInt).toNat = n9_86 → WA G M_X12_bound (ZM G M_X12_bound d (fun r σ' => ∃ x : Int32, r = some (.int x) ∧ Fm [85, 133, 135, 136, 137] [0, 119, 194] σ σ' ∧ AR ap_85 σ' 85 ∧ AR ap_135 σ' 135 ∧ AR ap_136 σ' 136 ∧ AR ap_137 σ' 137 ∧ WOK σ' ∧ True)) B_X12_bound_86 [(0, .ref 84), (1, .int a0), (2, .long v40), (4, .long l4), (6, .int l6), (7, .int l7)] [] s72 := by
                intro n9_86
                induction n9_86 using Nat.strongRecOn with
                | _ n9_86 ih73 =>
                  intro l4 l7 s72 i9 m9_86
                  obtain ⟨Fs72, khi74_0, khi74_1, khi74_2, khi74_3, As72_85, As72_135, As72_136, As72_137, Ps72_WOK, jhi74_0, jhi74_1, -⟩ := i9
                  have ul7 := Int32.toInt_lt l7
                  have wl7 := Int32.le_toInt l7
                  refine wa_iload rfl ?_
                  refine wa_iconst (v := 4) (by decide) ?_
                  refine wa_icmp_ge o_X12_bound_151 (by decide) (fun h75 => ?_) (fun h75 => ?_)
                  · refine wa_iinc (v := (1)) (lv' := fun y76 => [(6, .int y76), (0, .ref 84), (1, .int a0), (2, .long v40), (4, .long l4), (7, .int l7)]) (by decide) rfl (by decide) (fun _ => rfl) (fun y76 hy76 => ?_)
                    have ty76 := i_addT hy76.symm
                    clear hy76
                    refine wa_goto o_X12_bound_22 (by decide) ?_
                    refine wa_pick [1, 2, 3, 4, 0] rfl ?_
                    exact ih7 _ (by ((try simp only [vp_in_iff, Int32.lt_iff_toInt_lt, Int32.le_iff_toInt_le, ← Int32.toInt_inj, Int32.reduceToInt, n_1, n_2, n_8, Int32.toNatClampNeg, Int64.lt_iff_toInt_lt, Int64.le_iff_toInt_le, ← Int64.toInt_inj, Int64.reduceToInt, Int32.toInt_toInt64, lg_cmp_ge, lg_cmp_le, lg_cmp_gt, lg_cmp_lt, lg_cmp_eq, Bool.false_eq_true, Bool.true_eq_false, reduceCtorEq, false_iff, true_iff, iff_true, iff_false, and_true, true_and, and_false, false_and, reduceIte, ite_true, ite_false, eq_self] at *)) <;> omega) _ _ _ _ ⟨Fs72, (khi74_0), (khi74_1), (khi74_2), (khi74_3), As72_85, As72_135, As72_136, As72_137, Ps72_WOK, (by ((try simp only [vp_in_iff, Int32.lt_iff_toInt_lt, Int32.le_iff_toInt_le, ← Int32.toInt_inj, Int32.reduceToInt, n_1, n_2, n_8, Int32.toNatClampNeg, Int64.lt_iff_toInt_lt, Int64.le_iff_toInt_le, ← Int64.toInt_inj, Int64.reduceToInt, Int32.toInt_toInt64, lg_cmp_ge, lg_cmp_le, lg_cmp_gt, lg_cmp_lt, lg_cmp_eq, Bool.false_eq_true, Bool.true_eq_false, reduceCtorEq, false_iff, true_iff, iff_true, iff_false, and_true, true_and, and_false, false_and, reduceIte, ite_true, ite_false, eq_self] at *)) <;> omega), (by ((try simp only [vp_in_iff, Int32.lt_iff_toInt_lt, Int32.le_iff_toInt_le, ← Int32.toInt_inj, Int32.reduceToInt, n_1, n_2, n_8, Int32.toNatClampNeg, Int64.lt_iff_toInt_lt, Int64.le_iff_toInt_le, ← Int64.toInt_inj, Int64.reduceToInt, Int32.toInt_toInt64, lg_cmp_ge, lg_cmp_le, lg_cmp_gt, lg_cmp_lt, lg_cmp_eq, Bool.false_eq_true, Bool.true_eq_false, reduceCtorEq, false_iff, true_iff, iff_true, iff_false, and_true, true_and, and_false, false_and, reduceIte, ite_true, ite_false, eq_self] at *)) <;> omega), (by ((try simp only [vp_in_iff, Int32.lt_iff_toInt_lt, Int32.le_iff_toInt_le, ← Int32.toInt_inj, Int32.reduceToInt, n_1, n_2, n_8, Int32.toNatClampNeg, Int64.lt_iff_toInt_lt, Int64.le_iff_toInt_le, ← Int64.toInt_inj, Int64.reduceToInt, Int32.toInt_toInt64, lg_cmp_ge, lg_cmp_le, lg_cmp_gt, lg_cmp_lt, lg_cmp_eq, Bool.false_eq_true, Bool.true_eq_false, reduceCtorEq, false_iff, true_iff, iff_true, iff_false, and_true, true_and, and_false, false_and, reduceIte, ite_true, ite_false, eq_self] at *)) <;> omega), trivial⟩ rfl
                  · have mh75 := nle_mx h75
                    refine wa_lload rfl ?_
                    refine wa_aload_n (i := 0) rfl rfl ?_
                    refine wa_getr ck_12 fl_12_292 ly_84 rf_84_116 ?_
                    refine wa_iconst (v := 4) (by decide) ?_
                    refine wa_iload rfl ?_
                    refine wa_imul ?_
                    refine wa_top (fun v77 hv77 => ?_)
                    have tv77 := i_mulT hv77
                    clear hv77
                    refine wa_iload rfl ?_
                    refine wa_iadd ?_
                    refine wa_top (fun v78 hv78 => ?_)
                    have tv78 := i_addT hv78
                    clear hv78
                    refine wa_iald ly_137 (by ((try simp only [vp_in_iff, Int32.lt_iff_toInt_lt, Int32.le_iff_toInt_le, ← Int32.toInt_inj, Int32.reduceToInt, n_1, n_2, n_8, Int32.toNatClampNeg, Int64.lt_iff_toInt_lt, Int64.le_iff_toInt_le, ← Int64.toInt_inj, Int64.reduceToInt, Int32.toInt_toInt64, lg_cmp_ge, lg_cmp_le, lg_cmp_gt, lg_cmp_lt, lg_cmp_eq, Bool.false_eq_true, Bool.true_eq_false, reduceCtorEq, false_iff, true_iff, iff_true, iff_false, and_true, true_and, and_false, false_and, reduceIte, ite_true, ite_false, eq_self] at *)) <;> omega) ?_
                    refine wa_top (fun v79 hv79 => ?_)
                    have rv79 : -20 ≤ v79.toInt ∧ v79.toInt ≤ 20 := by rw [← hv79]; exact ar_at As72_137 _
                    clear hv79
                    refine wa_if_ge o_X12_bound_127 (by decide) (fun h80 => ?_) (fun h80 => ?_)
                    · refine wa_aload_n (i := 0) rfl rfl ?_
                      refine wa_getr ck_12 fl_12_292 ly_84 rf_84_116 ?_
                      refine wa_iconst (v := 4) (by decide) ?_
                      refine wa_iload rfl ?_
                      refine wa_imul ?_
                      refine wa_top (fun v81 hv81 => ?_)
                      have tv81 := i_mulT hv81
                      clear hv81
                      refine wa_iload rfl ?_
                      refine wa_iadd ?_
                      refine wa_top (fun v82 hv82 => ?_)
                      have tv82 := i_addT hv82
                      clear hv82
                      refine wa_iald ly_137 (by ((try simp only [vp_in_iff, Int32.lt_iff_toInt_lt, Int32.le_iff_toInt_le, ← Int32.toInt_inj, Int32.reduceToInt, n_1, n_2, n_8, Int32.toNatClampNeg, Int64.lt_iff_toInt_lt, Int64.le_iff_toInt_le, ← Int64.toInt_inj, Int64.reduceToInt, Int32.toInt_toInt64, lg_cmp_ge, lg_cmp_le, lg_cmp_gt, lg_cmp_lt, lg_cmp_eq, Bool.false_eq_true, Bool.true_eq_false, reduceCtorEq, false_iff, true_iff, iff_true, iff_false, and_true, true_and, and_false, false_and, reduceIte, ite_true, ite_false, eq_self] at *)) <;> omega) ?_
                      refine wa_top (fun v83 hv83 => ?_)
                      have rv83 : -20 ≤ v83.toInt ∧ v83.toInt ≤ 20 := by rw [← hv83]; exact ar_at As72_137 _
                      clear hv83
                      refine wa_i2l ?_
                      refine wa_Sl (d9 := d - 1) [.long _, .long _] [] (sp_X12_max G (d := d - 1) (by omega) s72 _ _) (rfl) rfl rfl (zr (by omega)) mk_X12_max ml_12_1009 (Nat.le_of_ble_eq_true rfl) (fun x85 s84 hs84 => ?_)
                      obtain ⟨zs84, cx85_1, -⟩ := pL hs84
                      subst zs84
                      refine wa_lstoreD (lv' := [(4, .long x85), (0, .ref 84), (1, .int a0), (2, .long v40), (6, .int l6), (7, .int l7)]) (by decide) rfl ?_
                      refine wa_iinc (v := (1)) (lv' := fun y86 => [(7, .int y86), (4, .long x85), (0, .ref 84), (1, .int a0), (2, .long v40), (6, .int l6)]) (by decide) rfl (by decide) (fun _ => rfl) (fun y86 hy86 => ?_)
                      have ty86 := i_addT hy86.symm
                      clear hy86
                      refine wa_goto o_X12_bound_86 (by decide) ?_
                      refine wa_pick [2, 3, 4, 1, 5, 0] rfl ?_
                      exact ih73 _ (by ((try simp only [vp_in_iff, Int32.lt_iff_toInt_lt, Int32.le_iff_toInt_le, ← Int32.toInt_inj, Int32.reduceToInt, n_1, n_2, n_8, Int32.toNatClampNeg, Int64.lt_iff_toInt_lt, Int64.le_iff_toInt_le, ← Int64.toInt_inj, Int64.reduceToInt, Int32.toInt_toInt64, lg_cmp_ge, lg_cmp_le, lg_cmp_gt, lg_cmp_lt, lg_cmp_eq, Bool.false_eq_true, Bool.true_eq_false, reduceCtorEq, false_iff, true_iff, iff_true, iff_false, and_true, true_and, and_false, false_and, reduceIte, ite_true, ite_false, eq_self] at *)) <;> omega) _ _ _ ⟨Fs72, (khi74_0), (khi74_1), (khi74_2), (khi74_3), As72_85, As72_135, As72_136, As72_137, Ps72_WOK, (by ((try simp only [vp_in_iff, Int32.lt_iff_toInt_lt, Int32.le_iff_toInt_le, ← Int32.toInt_inj, Int32.reduceToInt, n_1, n_2, n_8, Int32.toNatClampNeg, Int64.lt_iff_toInt_lt, Int64.le_iff_toInt_le, ← Int64.toInt_inj, Int64.reduceToInt, Int32.toInt_toInt64, lg_cmp_ge, lg_cmp_le, lg_cmp_gt, lg_cmp_lt, lg_cmp_eq, Bool.false_eq_true, Bool.true_eq_false, reduceCtorEq, false_iff, true_iff, iff_true, iff_false, and_true, true_and, and_false, false_and, reduceIte, ite_true, ite_false, eq_self] at *)) <;> omega), (by ((try simp only [vp_in_iff, Int32.lt_iff_toInt_lt, Int32.le_iff_toInt_le, ← Int32.toInt_inj, Int32.reduceToInt, n_1, n_2, n_8, Int32.toNatClampNeg, Int64.lt_iff_toInt_lt, Int64.le_iff_toInt_le, ← Int64.toInt_inj, Int64.reduceToInt, Int32.toInt_toInt64, lg_cmp_ge, lg_cmp_le, lg_cmp_gt, lg_cmp_lt, lg_cmp_eq, Bool.false_eq_true, Bool.true_eq_false, reduceCtorEq, false_iff, true_iff, iff_true, iff_false, and_true, true_and, and_false, false_and, reduceIte, ite_true, ite_false, eq_self] at *)) <;> omega), trivial⟩ rfl
                    · refine wa_iconst (v := 0) (by decide) ?_
                      refine wa_aload_n (i := 0) rfl rfl ?_
                      refine wa_getr ck_12 fl_12_292 ly_84 rf_84_116 ?_
                      refine wa_iconst (v := 4) (by decide) ?_
                      refine wa_iload rfl ?_
                      refine wa_imul ?_
                      refine wa_top (fun v87 hv87 => ?_)
                      have tv87 := i_mulT hv87
                      clear hv87
                      refine wa_iload rfl ?_
                      refine wa_iadd ?_
                      refine wa_top (fun v88 hv88 => ?_)
                      have tv88 := i_addT hv88
                      clear hv88
                      refine wa_iald ly_137 (by ((try simp only [vp_in_iff, Int32.lt_iff_toInt_lt, Int32.le_iff_toInt_le, ← Int32.toInt_inj, Int32.reduceToInt, n_1, n_2, n_8, Int32.toNatClampNeg, Int64.lt_iff_toInt_lt, Int64.le_iff_toInt_le, ← Int64.toInt_inj, Int64.reduceToInt, Int32.toInt_toInt64, lg_cmp_ge, lg_cmp_le, lg_cmp_gt, lg_cmp_lt, lg_cmp_eq, Bool.false_eq_true, Bool.true_eq_false, reduceCtorEq, false_iff, true_iff, iff_true, iff_false, and_true, true_and, and_false, false_and, reduceIte, ite_true, ite_false, eq_self] at *)) <;> omega) ?_
                      refine wa_top (fun v89 hv89 => ?_)
                      have rv89 : -20 ≤ v89.toInt ∧ v89.toInt ≤ 20 := by rw [← hv89]; exact ar_at As72_137 _
                      clear hv89
                      refine wa_isub ?_
                      refine wa_top (fun v90 hv90 => ?_)
                      have tv90 := i_subT hv90
                      clear hv90
                      refine wa_i2l ?_
                      refine wa_goto o_X12_bound_140 (by decide) ?_
                      refine wa_Sl (d9 := d - 1) [.long _, .long _] [] (sp_X12_max G (d := d - 1) (by omega) s72 _ _) (rfl) rfl rfl (zr (by omega)) mk_X12_max ml_12_1009 (Nat.le_of_ble_eq_true rfl) (fun x92 s91 hs91 => ?_)
                      obtain ⟨zs91, cx92_1, -⟩ := pL hs91
                      subst zs91
                      refine wa_lstoreD (lv' := [(4, .long x92), (0, .ref 84), (1, .int a0), (2, .long v40), (6, .int l6), (7, .int l7)]) (by decide) rfl ?_
                      refine wa_iinc (v := (1)) (lv' := fun y93 => [(7, .int y93), (4, .long x92), (0, .ref 84), (1, .int a0), (2, .long v40), (6, .int l6)]) (by decide) rfl (by decide) (fun _ => rfl) (fun y93 hy93 => ?_)
                      have ty93 := i_addT hy93.symm
                      clear hy93
                      refine wa_goto o_X12_bound_86 (by decide) ?_
                      refine wa_pick [2, 3, 4, 1, 5, 0] rfl ?_
                      exact ih73 _ (by ((try simp only [vp_in_iff, Int32.lt_iff_toInt_lt, Int32.le_iff_toInt_le, ← Int32.toInt_inj, Int32.reduceToInt, n_1, n_2, n_8, Int32.toNatClampNeg, Int64.lt_iff_toInt_lt, Int64.le_iff_toInt_le, ← Int64.toInt_inj, Int64.reduceToInt, Int32.toInt_toInt64, lg_cmp_ge, lg_cmp_le, lg_cmp_gt, lg_cmp_lt, lg_cmp_eq, Bool.false_eq_true, Bool.true_eq_false, reduceCtorEq, false_iff, true_iff, iff_true, iff_false, and_true, true_and, and_false, false_and, reduceIte, ite_true, ite_false, eq_self] at *)) <;> omega) _ _ _ ⟨Fs72, (khi74_0), (khi74_1), (khi74_2), (khi74_3), As72_85, As72_135, As72_136, As72_137, Ps72_WOK, (by ((try simp only [vp_in_iff, Int32.lt_iff_toInt_lt, Int32.le_iff_toInt_le, ← Int32.toInt_inj, Int32.reduceToInt, n_1, n_2, n_8, Int32.toNatClampNeg, Int64.lt_iff_toInt_lt, Int64.le_iff_toInt_le, ← Int64.toInt_inj, Int64.reduceToInt, Int32.toInt_toInt64, lg_cmp_ge, lg_cmp_le, lg_cmp_gt, lg_cmp_lt, lg_cmp_eq, Bool.false_eq_true, Bool.true_eq_false, reduceCtorEq, false_iff, true_iff, iff_true, iff_false, and_true, true_and, and_false, false_and, reduceIte, ite_true, ite_false, eq_self] at *)) <;> omega), (by ((try simp only [vp_in_iff, Int32.lt_iff_toInt_lt, Int32.le_iff_toInt_le, ← Int32.toInt_inj, Int32.reduceToInt, n_1, n_2, n_8, Int32.toNatClampNeg, Int64.lt_iff_toInt_lt, Int64.le_iff_toInt_le, ← Int64.toInt_inj, Int64.reduceToInt, Int32.toInt_toInt64, lg_cmp_ge, lg_cmp_le, lg_cmp_gt, lg_cmp_lt, lg_cmp_eq, Bool.false_eq_true, Bool.true_eq_false, reduceCtorEq, false_iff, true_iff, iff_true, iff_false, and_true, true_and, and_false, false_and, reduceIte, ite_true, ite_false, eq_self] at *)) <;> omega), trivial⟩ rfl
              exact hi74 _ _ _ _ ⟨Fs6, (khi8_0), (khi8_1), (khi8_2), (khi8_3), As6_85, As6_135, As6_136, As6_137, Ps6_WOK, (by ((try simp only [vp_in_iff, Int32.lt_iff_toInt_lt, Int32.le_iff_toInt_le, ← Int32.toInt_inj, Int32.reduceToInt, n_1, n_2, n_8, Int32.toNatClampNeg, Int64.lt_iff_toInt_lt, Int64.le_iff_toInt_le, ← Int64.toInt_inj, Int64.reduceToInt, Int32.toInt_toInt64, lg_cmp_ge, lg_cmp_le, lg_cmp_gt, lg_cmp_lt, lg_cmp_eq, Bool.false_eq_true, Bool.true_eq_false, reduceCtorEq, false_iff, true_iff, iff_true, iff_false, and_true, true_and, and_false, false_and, reduceIte, ite_true, ite_false, eq_self] at *)) <;> omega), (by ((try simp only [vp_in_iff, Int32.lt_iff_toInt_lt, Int32.le_iff_toInt_le, ← Int32.toInt_inj, Int32.reduceToInt, n_1, n_2, n_8, Int32.toNatClampNeg, Int64.lt_iff_toInt_lt, Int64.le_iff_toInt_le, ← Int64.toInt_inj, Int64.reduceToInt, Int32.toInt_toInt64, lg_cmp_ge, lg_cmp_le, lg_cmp_gt, lg_cmp_lt, lg_cmp_eq, Bool.false_eq_true, Bool.true_eq_false, reduceCtorEq, false_iff, true_iff, iff_true, iff_false, and_true, true_and, and_false, false_and, reduceIte, ite_true, ite_false, eq_self] at *)) <;> omega), trivial⟩ rfl
    exact hi8 _ _ _ _ _ ⟨Fs4, ((Fm.gi fs4 (q := 84) (k := 33) rfl rfl).trans (Fm.gi fs1 (q := 84) (k := 33) rfl rfl)), ((Fm.gi fs4 (q := 84) (k := 32) rfl rfl).trans (Fm.gi fs1 (q := 84) (k := 32) rfl rfl)), (rfl), ((Fm.gi fs4 (q := 84) (k := 194) rfl rfl).trans (Fm.gi fs1 (q := 84) (k := 194) rfl rfl)), (ar_fm fs4 rfl rfl (ar_fm fs1 rfl rfl A_85)), As4_135, As4_136, As4_137, Ps4_WOK, (by ((try simp only [vp_in_iff, Int32.lt_iff_toInt_lt, Int32.le_iff_toInt_le, ← Int32.toInt_inj, Int32.reduceToInt, n_1, n_2, n_8, Int32.toNatClampNeg, Int64.lt_iff_toInt_lt, Int64.le_iff_toInt_le, ← Int64.toInt_inj, Int64.reduceToInt, Int32.toInt_toInt64, lg_cmp_ge, lg_cmp_le, lg_cmp_gt, lg_cmp_lt, lg_cmp_eq, Bool.false_eq_true, Bool.true_eq_false, reduceCtorEq, false_iff, true_iff, iff_true, iff_false, and_true, true_and, and_false, false_and, reduceIte, ite_true, ite_false, eq_self] at *)) <;> omega), (by ((try simp only [vp_in_iff, Int32.lt_iff_toInt_lt, Int32.le_iff_toInt_le, ← Int32.toInt_inj, Int32.reduceToInt, n_1, n_2, n_8, Int32.toNatClampNeg, Int64.lt_iff_toInt_lt, Int64.le_iff_toInt_le, ← Int64.toInt_inj, Int64.reduceToInt, Int32.toInt_toInt64, lg_cmp_ge, lg_cmp_le, lg_cmp_gt, lg_cmp_lt, lg_cmp_eq, Bool.false_eq_true, Bool.true_eq_false, reduceCtorEq, false_iff, true_iff, iff_true, iff_false, and_true, true_and, and_false, false_and, reduceIte, ite_true, ite_false, eq_self] at *)) <;> omega), (by ((try simp only [vp_in_iff, Int32.lt_iff_toInt_lt, Int32.le_iff_toInt_le, ← Int32.toInt_inj, Int32.reduceToInt, n_1, n_2, n_8, Int32.toNatClampNeg, Int64.lt_iff_toInt_lt, Int64.le_iff_toInt_le, ← Int64.toInt_inj, Int64.reduceToInt, Int32.toInt_toInt64, lg_cmp_ge, lg_cmp_le, lg_cmp_gt, lg_cmp_lt, lg_cmp_eq, Bool.false_eq_true, Bool.true_eq_false, reduceCtorEq, false_iff, true_iff, iff_true, iff_false, and_true, true_and, and_false, false_and, reduceIte, ite_true, ite_false, eq_self] at *)) <;> omega), trivial⟩ rfl
  · replace h3 := bI_f (b := bx2) (rfl) h3
    refine wa_bipush (v := (-105)) (by decide) ?_
    refine wa_ireturn rfl rfl ?_
    exact ⟨_, rfl, Fs1, (ar_fm fs1 rfl rfl A_85), (ar_fm fs1 rfl rfl A_135), (ar_fm fs1 rfl rfl A_136), (ar_fm fs1 rfl rfl A_137), (WOK_of (fun k => Fm.gi fs1 (q := 135) (k := k) rfl rfl) (fun k => Fm.gi fs1 (q := 136) (k := k) rfl rfl) P_WOK), trivial⟩
