set_option maxHeartbeats 4000000 in
theorem sp_X12_floor (G : kG9) {d : Nat} (hd : 0 ≤ d) (σ : St) (a0 : Int64) (a1 : Int64) (p1 : ¬ a1 = 0) : Ct G M_X12_floor d [.long a0, .long a1] σ (fun r σ' => ∃ x : Int64, r = some (.long x) ∧ σ = σ' ∧ True) := by
  refine wa_start (by decide) rfl (Nat.le_of_ble_eq_true rfl) (lv := [(0, .long a0), (2, .long a1)]) rfl o_X12_floor_0 rfl ?_
  refine wa_lload_n (i := 0) rfl rfl ?_
  refine wa_lload_n (i := 2) rfl rfl ?_
  refine wa_ldiv (by ((try simp only [vp_in_iff, Int32.lt_iff_toInt_lt, Int32.le_iff_toInt_le, ← Int32.toInt_inj, Int32.reduceToInt, n_1, n_2, n_8, Int32.toNatClampNeg, Int64.lt_iff_toInt_lt, Int64.le_iff_toInt_le, ← Int64.toInt_inj, Int64.reduceToInt, Int32.toInt_toInt64, lg_cmp_ge, lg_cmp_le, lg_cmp_gt, lg_cmp_lt, lg_cmp_eq, Bool.false_eq_true, Bool.true_eq_false, reduceCtorEq, false_iff, true_iff, iff_true, iff_false, and_true, true_and, and_false, false_and, reduceIte, ite_true, ite_false, eq_self] at *)) <;> omega) ?_
  refine wa_topl (fun v1 hv1 => ?_)
  clear hv1
  refine wa_lstoreD (lv' := [(4, .long v1), (0, .long a0), (2, .long a1)]) (by decide) rfl ?_
  refine wa_lload_n (i := 0) rfl rfl ?_
  refine wa_lload_n (i := 2) rfl rfl ?_
  refine wa_lrem (by ((try simp only [vp_in_iff, Int32.lt_iff_toInt_lt, Int32.le_iff_toInt_le, ← Int32.toInt_inj, Int32.reduceToInt, n_1, n_2, n_8, Int32.toNatClampNeg, Int64.lt_iff_toInt_lt, Int64.le_iff_toInt_le, ← Int64.toInt_inj, Int64.reduceToInt, Int32.toInt_toInt64, lg_cmp_ge, lg_cmp_le, lg_cmp_gt, lg_cmp_lt, lg_cmp_eq, Bool.false_eq_true, Bool.true_eq_false, reduceCtorEq, false_iff, true_iff, iff_true, iff_false, and_true, true_and, and_false, false_and, reduceIte, ite_true, ite_false, eq_self] at *)) <;> omega) ?_
  refine wa_topl (fun v2 hv2 => ?_)
  clear hv2
  refine wa_lconst (v := 0) (by decide) ?_
  refine wa_lcmp ?_
  refine wa_top (fun v3 hv3 => ?_)
  have tv3 := i_cmpT hv3
  clear hv3
  refine wa_if_eq o_X12_floor_26 (by decide) (fun h4 => ?_) (fun h4 => ?_)
  · refine wa_lload rfl ?_
    refine wa_lreturn rfl rfl ?_
    exact ⟨_, rfl, rfl, trivial⟩
  · refine wa_lload_n (i := 0) rfl rfl ?_
    refine wa_lconst (v := 0) (by decide) ?_
    refine wa_lcmp ?_
    refine wa_top (fun v5 hv5 => ?_)
    have tv5 := i_cmpT hv5
    clear hv5
    refine wa_if_ge o_X12_floor_26 (by decide) (fun h6 => ?_) (fun h6 => ?_)
    · refine wa_lload rfl ?_
      refine wa_lreturn rfl rfl ?_
      exact ⟨_, rfl, rfl, trivial⟩
    · refine wa_lload rfl ?_
      refine wa_lconst (v := 1) (by decide) ?_
      refine wa_lsub ?_
      refine wa_topl (fun v7 hv7 => ?_)
      clear hv7
      refine wa_goto o_X12_floor_28 (by decide) ?_
      refine wa_lreturn rfl rfl ?_
      exact ⟨_, rfl, rfl, trivial⟩
set_option maxHeartbeats 4000000 in
theorem sp_X12_firstBroken (G : kG9) {d : Nat} (hd : 0 ≤ d) (σ : St) (p1 : ¬ gl σ 84 164 = 0) (r1 : 0 ≤ (gi σ 84 32).toInt ∧ (gi σ 84 32).toInt ≤ 4) : Ct G M_X12_firstBroken d [.ref 84] σ (fun r σ' => ∃ x : Int32, r = some (.int x) ∧ σ = σ' ∧ True) := by
  refine wa_start (by decide) rfl (Nat.le_of_ble_eq_true rfl) (lv := [(0, .ref 84)]) rfl o_X12_firstBroken_0 rfl ?_
  refine wa_iconst (v := 0) (by decide) ?_
  refine wa_istore_nD (lv' := [(1, .int 0), (0, .ref 84)]) (i := 1) rfl (by decide) rfl ?_
  refine wa_pick [1, 0] rfl ?_
  have hi2 : ∀ (n9_2 : Nat) (l1 : Int32), ((0 ≤ l1.toInt) ∧ (True)) → (2147483647 - l1.toInt).toNat = n9_2 → WA G M_X12_firstBroken (ZM G M_X12_firstBroken d (fun r σ' => ∃ x : Int32, r = some (.int x) ∧ σ = σ' ∧ True)) B_X12_firstBroken_2 [(0, .ref 84), (1, .int l1)] [] σ := by
    intro n9_2
    induction n9_2 using Nat.strongRecOn with
    | _ n9_2 ih1 =>
      intro l1  i9 m9_2
      obtain ⟨jhi2_0, -⟩ := i9
      have ul1 := Int32.toInt_lt l1
      have wl1 := Int32.le_toInt l1
      refine wa_iload_n (i := 1) rfl rfl ?_
      refine wa_aload_n (i := 0) rfl rfl ?_
      refine wa_geti ck_12 fl_12_815 ly_84 ?_
      refine wa_icmp_ge o_X12_firstBroken_34 (by decide) (fun h3 => ?_) (fun h3 => ?_)
      · refine wa_iconst (v := (-1)) (by decide) ?_
        refine wa_ireturn rfl rfl ?_
        exact ⟨_, rfl, rfl, trivial⟩
      · have mh3 := nle_mx h3
        refine wa_aload_n (i := 0) rfl rfl ?_
        refine wa_getr ck_12 fl_12_406 ly_84 rf_84_165 ?_
        refine wa_iload_n (i := 1) rfl rfl ?_
        refine wa_lald ly_101 (by ((try simp only [vp_in_iff, Int32.lt_iff_toInt_lt, Int32.le_iff_toInt_le, ← Int32.toInt_inj, Int32.reduceToInt, n_1, n_2, n_8, Int32.toNatClampNeg, Int64.lt_iff_toInt_lt, Int64.le_iff_toInt_le, ← Int64.toInt_inj, Int64.reduceToInt, Int32.toInt_toInt64, lg_cmp_ge, lg_cmp_le, lg_cmp_gt, lg_cmp_lt, lg_cmp_eq, Bool.false_eq_true, Bool.true_eq_false, reduceCtorEq, false_iff, true_iff, iff_true, iff_false, and_true, true_and, and_false, false_and, reduceIte, ite_true, ite_false, eq_self] at *)) <;> omega) ?_
        refine wa_aload_n (i := 0) rfl rfl ?_
        refine wa_getl ck_12 fl_12_1097 ly_84 ?_
        refine wa_lrem (by ((try simp only [vp_in_iff, Int32.lt_iff_toInt_lt, Int32.le_iff_toInt_le, ← Int32.toInt_inj, Int32.reduceToInt, n_1, n_2, n_8, Int32.toNatClampNeg, Int64.lt_iff_toInt_lt, Int64.le_iff_toInt_le, ← Int64.toInt_inj, Int64.reduceToInt, Int32.toInt_toInt64, lg_cmp_ge, lg_cmp_le, lg_cmp_gt, lg_cmp_lt, lg_cmp_eq, Bool.false_eq_true, Bool.true_eq_false, reduceCtorEq, false_iff, true_iff, iff_true, iff_false, and_true, true_and, and_false, false_and, reduceIte, ite_true, ite_false, eq_self] at *)) <;> omega) ?_
        refine wa_topl (fun v4 hv4 => ?_)
        clear hv4
        refine wa_lconst (v := 0) (by decide) ?_
        refine wa_lcmp ?_
        refine wa_top (fun v5 hv5 => ?_)
        have tv5 := i_cmpT hv5
        clear hv5
        refine wa_if_eq o_X12_firstBroken_28 (by decide) (fun h6 => ?_) (fun h6 => ?_)
        · refine wa_iinc (v := (1)) (lv' := fun y7 => [(1, .int y7), (0, .ref 84)]) (by decide) rfl (by decide) (fun _ => rfl) (fun y7 hy7 => ?_)
          replace hy7 := hy7.symm
          first | (refine i_addK hy7 ?_ ?_ (fun ty7 => ?_); (((try simp only [vp_in_iff, Int32.lt_iff_toInt_lt, Int32.le_iff_toInt_le, ← Int32.toInt_inj, Int32.reduceToInt, n_1, n_2, n_8, Int32.toNatClampNeg, Int64.lt_iff_toInt_lt, Int64.le_iff_toInt_le, ← Int64.toInt_inj, Int64.reduceToInt, Int32.toInt_toInt64, lg_cmp_ge, lg_cmp_le, lg_cmp_gt, lg_cmp_lt, lg_cmp_eq, Bool.false_eq_true, Bool.true_eq_false, reduceCtorEq, false_iff, true_iff, iff_true, iff_false, and_true, true_and, and_false, false_and, reduceIte, ite_true, ite_false, eq_self] at *)) <;> omega); (((try simp only [vp_in_iff, Int32.lt_iff_toInt_lt, Int32.le_iff_toInt_le, ← Int32.toInt_inj, Int32.reduceToInt, n_1, n_2, n_8, Int32.toNatClampNeg, Int64.lt_iff_toInt_lt, Int64.le_iff_toInt_le, ← Int64.toInt_inj, Int64.reduceToInt, Int32.toInt_toInt64, lg_cmp_ge, lg_cmp_le, lg_cmp_gt, lg_cmp_lt, lg_cmp_eq, Bool.false_eq_true, Bool.true_eq_false, reduceCtorEq, false_iff, true_iff, iff_true, iff_false, and_true, true_and, and_false, false_and, reduceIte, ite_true, ite_false, eq_self] at *)) <;> omega)) | skip
          clear hy7
          refine wa_goto o_X12_firstBroken_2 (by decide) ?_
          refine wa_pick [1, 0] rfl ?_
          exact ih1 _ (by ((try simp only [vp_in_iff, Int32.lt_iff_toInt_lt, Int32.le_iff_toInt_le, ← Int32.toInt_inj, Int32.reduceToInt, n_1, n_2, n_8, Int32.toNatClampNeg, Int64.lt_iff_toInt_lt, Int64.le_iff_toInt_le, ← Int64.toInt_inj, Int64.reduceToInt, Int32.toInt_toInt64, lg_cmp_ge, lg_cmp_le, lg_cmp_gt, lg_cmp_lt, lg_cmp_eq, Bool.false_eq_true, Bool.true_eq_false, reduceCtorEq, false_iff, true_iff, iff_true, iff_false, and_true, true_and, and_false, false_and, reduceIte, ite_true, ite_false, eq_self] at *)) <;> omega) _ ⟨(by ((try simp only [vp_in_iff, Int32.lt_iff_toInt_lt, Int32.le_iff_toInt_le, ← Int32.toInt_inj, Int32.reduceToInt, n_1, n_2, n_8, Int32.toNatClampNeg, Int64.lt_iff_toInt_lt, Int64.le_iff_toInt_le, ← Int64.toInt_inj, Int64.reduceToInt, Int32.toInt_toInt64, lg_cmp_ge, lg_cmp_le, lg_cmp_gt, lg_cmp_lt, lg_cmp_eq, Bool.false_eq_true, Bool.true_eq_false, reduceCtorEq, false_iff, true_iff, iff_true, iff_false, and_true, true_and, and_false, false_and, reduceIte, ite_true, ite_false, eq_self] at *)) <;> omega), trivial⟩ rfl
        · refine wa_iload_n (i := 1) rfl rfl ?_
          refine wa_ireturn rfl rfl ?_
          exact ⟨_, rfl, rfl, trivial⟩
  exact hi2 _ _ ⟨(by ((try simp only [vp_in_iff, Int32.lt_iff_toInt_lt, Int32.le_iff_toInt_le, ← Int32.toInt_inj, Int32.reduceToInt, n_1, n_2, n_8, Int32.toNatClampNeg, Int64.lt_iff_toInt_lt, Int64.le_iff_toInt_le, ← Int64.toInt_inj, Int64.reduceToInt, Int32.toInt_toInt64, lg_cmp_ge, lg_cmp_le, lg_cmp_gt, lg_cmp_lt, lg_cmp_eq, Bool.false_eq_true, Bool.true_eq_false, reduceCtorEq, false_iff, true_iff, iff_true, iff_false, and_true, true_and, and_false, false_and, reduceIte, ite_true, ite_false, eq_self] at *)) <;> omega), trivial⟩ rfl
set_option maxHeartbeats 4000000 in
theorem sp_X12_isTight (G : kG9) {d : Nat} (hd : 2 ≤ d) (σ : St) (a0 : Int32) (p1 : 0 ≤ a0.toInt ∧ a0.toInt < 600) (r1 : 0 ≤ (gi σ 84 160).toInt ∧ (gi σ 84 160).toInt ≤ 600) (r2 : 0 ≤ (gi σ 84 32).toInt ∧ (gi σ 84 32).toInt ≤ 4) : Ct G M_X12_isTight d [.ref 84, .int a0] σ (fun r σ' => ∃ x : Bool, r = some (.int (bI x)) ∧ σ = σ' ∧ True) := by
  refine wa_start (by decide) rfl (Nat.le_of_ble_eq_true rfl) (lv := [(0, .ref 84), (1, .int a0)]) rfl o_X12_isTight_0 rfl ?_
  have ua0 := Int32.toInt_lt a0
  have wa0 := Int32.le_toInt a0
  refine wa_aload_n (i := 0) rfl rfl ?_
  refine wa_iload_n (i := 1) rfl rfl ?_
  refine wa_iconst (v := 0) (by decide) ?_
  refine wa_aload_n (i := 0) rfl rfl ?_
  refine wa_getr ck_12 fl_12_397 ly_84 rf_84_159 ?_
  refine wa_iload_n (i := 1) rfl rfl ?_
  refine wa_lald ly_104 (by ((try simp only [vp_in_iff, Int32.lt_iff_toInt_lt, Int32.le_iff_toInt_le, ← Int32.toInt_inj, Int32.reduceToInt, n_1, n_2, n_8, Int32.toNatClampNeg, Int64.lt_iff_toInt_lt, Int64.le_iff_toInt_le, ← Int64.toInt_inj, Int64.reduceToInt, Int32.toInt_toInt64, lg_cmp_ge, lg_cmp_le, lg_cmp_gt, lg_cmp_lt, lg_cmp_eq, Bool.false_eq_true, Bool.true_eq_false, reduceCtorEq, false_iff, true_iff, iff_true, iff_false, and_true, true_and, and_false, false_and, reduceIte, ite_true, ite_false, eq_self] at *)) <;> omega) ?_
  refine wa_Vi (d9 := d - 1) [.int _, .int (bI false), .long _] [] (sp_X12_compareRow G (d := d - 1) (by omega) σ _ false _ (by ((try simp only [vp_in_iff, Int32.lt_iff_toInt_lt, Int32.le_iff_toInt_le, ← Int32.toInt_inj, Int32.reduceToInt, n_1, n_2, n_8, Int32.toNatClampNeg, Int64.lt_iff_toInt_lt, Int64.le_iff_toInt_le, ← Int64.toInt_inj, Int64.reduceToInt, Int32.toInt_toInt64, lg_cmp_ge, lg_cmp_le, lg_cmp_gt, lg_cmp_lt, lg_cmp_eq, Bool.false_eq_true, Bool.true_eq_false, reduceCtorEq, false_iff, true_iff, iff_true, iff_false, and_true, true_and, and_false, false_and, reduceIte, ite_true, ite_false, eq_self] at *)) <;> omega) (by first | assumption | exact Or.inl rfl | exact Or.inr rfl | (((try simp only [vp_in_iff, Int32.lt_iff_toInt_lt, Int32.le_iff_toInt_le, ← Int32.toInt_inj, Int32.reduceToInt, n_1, n_2, n_8, Int32.toNatClampNeg, Int64.lt_iff_toInt_lt, Int64.le_iff_toInt_le, ← Int64.toInt_inj, Int64.reduceToInt, Int32.toInt_toInt64, lg_cmp_ge, lg_cmp_le, lg_cmp_gt, lg_cmp_lt, lg_cmp_eq, Bool.false_eq_true, Bool.true_eq_false, reduceCtorEq, false_iff, true_iff, iff_true, iff_false, and_true, true_and, and_false, false_and, reduceIte, ite_true, ite_false, eq_self] at *)) <;> omega)) (by first | assumption | exact Or.inl rfl | exact Or.inr rfl | (((try simp only [vp_in_iff, Int32.lt_iff_toInt_lt, Int32.le_iff_toInt_le, ← Int32.toInt_inj, Int32.reduceToInt, n_1, n_2, n_8, Int32.toNatClampNeg, Int64.lt_iff_toInt_lt, Int64.le_iff_toInt_le, ← Int64.toInt_inj, Int64.reduceToInt, Int32.toInt_toInt64, lg_cmp_ge, lg_cmp_le, lg_cmp_gt, lg_cmp_lt, lg_cmp_eq, Bool.false_eq_true, Bool.true_eq_false, reduceCtorEq, false_iff, true_iff, iff_true, iff_false, and_true, true_and, and_false, false_and, reduceIte, ite_true, ite_false, eq_self] at *)) <;> omega))) (rfl) rfl rfl (zr (by omega)) mk_X12_compareRow ly_84 ml_12_1112 (Nat.le_of_ble_eq_true rfl) (fun x2 s1 hs1 => ?_)
  obtain ⟨zs1, -⟩ := pI hs1
  subst zs1
  refine wa_if_ne o_X12_isTight_19 (by decide) (fun h3 => ?_) (fun h3 => ?_)
  · refine wa_iconst (v := 0) (by decide) ?_
    refine wa_zreturn false (rfl) rfl rfl ?_
    exact ⟨_, rfl, rfl, trivial⟩
  · refine wa_iconst (v := 1) (by decide) ?_
    refine wa_goto o_X12_isTight_20 (by decide) ?_
    refine wa_zreturn true (rfl) rfl rfl ?_
    exact ⟨_, rfl, rfl, trivial⟩
set_option maxHeartbeats 4000000 in
theorem sp_X12_isSmall (G : kG9) {d : Nat} (hd : 0 ≤ d) (σ : St) (a0 : Int64) : Ct G M_X12_isSmall d [.long a0] σ (fun r σ' => ∃ x : Bool, r = some (.int (bI x)) ∧ σ = σ' ∧ True) := by
  refine wa_start (by decide) rfl (Nat.le_of_ble_eq_true rfl) (lv := [(0, .long a0)]) rfl o_X12_isSmall_0 rfl ?_
  refine wa_lload_n (i := 0) rfl rfl ?_
  refine wa_ldc2 (v := (-100000000)) (allW_in (kT_15 _ (List.mem_of_getElem? (i := 149) rfl)) rfl) ?_
  refine wa_lcmp ?_
  refine wa_top (fun v1 hv1 => ?_)
  have tv1 := i_cmpT hv1
  clear hv1
  refine wa_if_lt o_X12_isSmall_20 (by decide) (fun h2 => ?_) (fun h2 => ?_)
  · refine wa_iconst (v := 0) (by decide) ?_
    refine wa_zreturn false (rfl) rfl rfl ?_
    exact ⟨_, rfl, rfl, trivial⟩
  · refine wa_lload_n (i := 0) rfl rfl ?_
    refine wa_ldc2 (v := (100000000)) (allW_in (kT_15 _ (List.mem_of_getElem? (i := 150) rfl)) rfl) ?_
    refine wa_lcmp ?_
    refine wa_top (fun v3 hv3 => ?_)
    have tv3 := i_cmpT hv3
    clear hv3
    refine wa_if_gt o_X12_isSmall_20 (by decide) (fun h4 => ?_) (fun h4 => ?_)
    · refine wa_iconst (v := 0) (by decide) ?_
      refine wa_zreturn false (rfl) rfl rfl ?_
      exact ⟨_, rfl, rfl, trivial⟩
    · refine wa_iconst (v := 1) (by decide) ?_
      refine wa_goto o_X12_isSmall_21 (by decide) ?_
      refine wa_zreturn true (rfl) rfl rfl ?_
      exact ⟨_, rfl, rfl, trivial⟩
set_option maxHeartbeats 4000000 in
theorem sp_X12_best (G : kG9) {d : Nat} (hd : 1 ≤ d) (σ : St) (a0 : Int32) : Ct G M_X12_best d [.ref 84, .int a0] σ (fun r σ' => ∃ x : Int64, r = some (.long x) ∧ Fm [] [0] σ σ' ∧ True) := by
  refine wa_start (by decide) rfl (Nat.le_of_ble_eq_true rfl) (lv := [(0, .ref 84), (1, .int a0)]) rfl o_X12_best_0 rfl ?_
  have ua0 := Int32.toInt_lt a0
  have wa0 := Int32.le_toInt a0
  refine wa_aload_n (i := 0) rfl rfl ?_
  refine wa_aload_n (i := 0) rfl rfl ?_
  refine wa_getz ck_12 fl_12_1214 ly_84 ?_
  refine wa_if_eq o_X12_best_24 (by decide) (fun h1 => ?_) (fun h1 => ?_)
  · replace h1 := bI_f (b := (gb σ 84 176)) (rfl) h1
    refine wa_iconst (v := 1) (by decide) ?_
    refine wa_puti ck_12 fl_12_3 ly_84 (fun s2 hs2 => ?_)
    have Fs2 : Fm [] [0] σ s2 := by rw [hs2]; exact Fm.si (Fm.rf [] [0] σ) rfl
    refine wa_aload_n (i := 0) rfl rfl ?_
    refine wa_geti ck_12 fl_12_3 ly_84 ?_
    refine wa_rw (nxe_gi_si hs2) ?_
    refine wa_if_le o_X12_best_37 (by decide) (fun h3 => ?_) (fun h3 => ?_)
    · refine wa_iload_n (i := 1) rfl rfl ?_
      refine wa_iconst (v := 1) (by decide) ?_
      refine wa_icmp_ne o_X12_best_48 (by decide) (fun h4 => ?_) (fun h4 => ?_)
      · refine wa_iload_n (i := 1) rfl rfl ?_
        refine wa_iconst (v := 2) (by decide) ?_
        refine wa_icmp_ne o_X12_best_59 (by decide) (fun h5 => ?_) (fun h5 => ?_)
        · refine wa_aload_n (i := 0) rfl rfl ?_
          refine wa_getz ck_12 fl_12_1193 ly_84 ?_
          refine wa_rw (congrArg bI (nx_gb_si hs2)) ?_
          refine wa_if_ne o_X12_best_70 (by decide) (fun h6 => ?_) (fun h6 => ?_)
          · replace h6 := bI_t (b := (gb σ 84 177)) (rfl) h6
            refine wa_iload_n (i := 1) rfl rfl ?_
            refine wa_if_ne o_X12_best_81 (by decide) (fun h7 => ?_) (fun h7 => ?_)
            · refine wa_aload_n (i := 0) rfl rfl ?_
              refine wa_getr ck_12 fl_12_426 ly_84 rf_84_181 ?_
              refine wa_iload_n (i := 1) rfl rfl ?_
              refine wa_iconst (v := 3) (by decide) ?_
              refine wa_isub ?_
              refine wa_top (fun v8 hv8 => ?_)
              first | (refine i_subK hv8 ?_ ?_ (fun tv8 => ?_); (((try simp only [vp_in_iff, Int32.lt_iff_toInt_lt, Int32.le_iff_toInt_le, ← Int32.toInt_inj, Int32.reduceToInt, n_1, n_2, n_8, Int32.toNatClampNeg, Int64.lt_iff_toInt_lt, Int64.le_iff_toInt_le, ← Int64.toInt_inj, Int64.reduceToInt, Int32.toInt_toInt64, lg_cmp_ge, lg_cmp_le, lg_cmp_gt, lg_cmp_lt, lg_cmp_eq, Bool.false_eq_true, Bool.true_eq_false, reduceCtorEq, false_iff, true_iff, iff_true, iff_false, and_true, true_and, and_false, false_and, reduceIte, ite_true, ite_false, eq_self] at *)) <;> omega); (((try simp only [vp_in_iff, Int32.lt_iff_toInt_lt, Int32.le_iff_toInt_le, ← Int32.toInt_inj, Int32.reduceToInt, n_1, n_2, n_8, Int32.toNatClampNeg, Int64.lt_iff_toInt_lt, Int64.le_iff_toInt_le, ← Int64.toInt_inj, Int64.reduceToInt, Int32.toInt_toInt64, lg_cmp_ge, lg_cmp_le, lg_cmp_gt, lg_cmp_lt, lg_cmp_eq, Bool.false_eq_true, Bool.true_eq_false, reduceCtorEq, false_iff, true_iff, iff_true, iff_false, and_true, true_and, and_false, false_and, reduceIte, ite_true, ite_false, eq_self] at *)) <;> omega)) | skip
              clear hv8
              refine wa_lald ly_95 (by ((try simp only [vp_in_iff, Int32.lt_iff_toInt_lt, Int32.le_iff_toInt_le, ← Int32.toInt_inj, Int32.reduceToInt, n_1, n_2, n_8, Int32.toNatClampNeg, Int64.lt_iff_toInt_lt, Int64.le_iff_toInt_le, ← Int64.toInt_inj, Int64.reduceToInt, Int32.toInt_toInt64, lg_cmp_ge, lg_cmp_le, lg_cmp_gt, lg_cmp_lt, lg_cmp_eq, Bool.false_eq_true, Bool.true_eq_false, reduceCtorEq, false_iff, true_iff, iff_true, iff_false, and_true, true_and, and_false, false_and, reduceIte, ite_true, ite_false, eq_self] at *)) <;> omega) ?_
              refine wa_lreturn rfl rfl ?_
              exact ⟨_, rfl, Fs2, trivial⟩
            · refine wa_aload_n (i := 0) rfl rfl ?_
              refine wa_getl ck_12 fl_12_1196 ly_84 ?_
              refine wa_rwl (nx_gl_si hs2) ?_
              refine wa_goto o_X12_best_89 (by decide) ?_
              refine wa_lreturn rfl rfl ?_
              exact ⟨_, rfl, Fs2, trivial⟩
          · replace h6 := bI_f (b := (gb σ 84 177)) (rfl) h6
            refine wa_lconst (v := 0) (by decide) ?_
            refine wa_goto o_X12_best_89 (by decide) ?_
            refine wa_lreturn rfl rfl ?_
            exact ⟨_, rfl, Fs2, trivial⟩
        · refine wa_aload_n (i := 0) rfl rfl ?_
          refine wa_geti ck_12 fl_12_1205 ly_84 ?_
          refine wa_rw (nxk_gi_si hs2 (by decide)) ?_
          refine wa_i2l ?_
          refine wa_lreturn rfl rfl ?_
          exact ⟨_, rfl, Fs2, trivial⟩
      · refine wa_aload_n (i := 0) rfl rfl ?_
        refine wa_geti ck_12 fl_12_1217 ly_84 ?_
        refine wa_rw (nxk_gi_si hs2 (by decide)) ?_
        refine wa_i2l ?_
        refine wa_lreturn rfl rfl ?_
        exact ⟨_, rfl, Fs2, trivial⟩
    · refine wa_lconst (v := 0) (by decide) ?_
      refine wa_lreturn rfl rfl ?_
      exact ⟨_, rfl, Fs2, trivial⟩
  · replace h1 := bI_t (b := (gb σ 84 176)) (rfl) h1
    refine wa_iload_n (i := 1) rfl rfl ?_
    refine wa_i2l ?_
    refine wa_lconst (v := 0) (by decide) ?_
    refine wa_ldc2 (v := (6)) (allW_in (kT_15 _ (List.mem_of_getElem? (i := 159) rfl)) rfl) ?_
    refine wa_Si (d9 := d - 1) [.long _, .long _, .long _] [.ref 84] (sp_X12_in G (d := d - 1) (by omega) σ _ _ _) (rfl) rfl rfl (zr (by omega)) mk_X12_in ml_12_504 (Nat.le_of_ble_eq_true rfl) (fun x10 s9 hs9 => ?_)
    obtain ⟨bx10, ex10, zs9, cx10_1, -⟩ := pB hs9
    subst ex10
    subst zs9
    refine wa_if_eq o_X12_best_24 (by decide) (fun h11 => ?_) (fun h11 => ?_)
    · replace h11 := bI_f (b := bx10) (rfl) h11
      have uh11_0 := iff_f cx10_1 h11
      refine wa_iconst (v := 1) (by decide) ?_
      refine wa_puti ck_12 fl_12_3 ly_84 (fun s12 hs12 => ?_)
      have Fs12 : Fm [] [0] σ s12 := by rw [hs12]; exact Fm.si (Fm.rf [] [0] σ) rfl
      refine wa_aload_n (i := 0) rfl rfl ?_
      refine wa_geti ck_12 fl_12_3 ly_84 ?_
      refine wa_rw (nxe_gi_si hs12) ?_
      refine wa_if_le o_X12_best_37 (by decide) (fun h13 => ?_) (fun h13 => ?_)
      · refine wa_iload_n (i := 1) rfl rfl ?_
        refine wa_iconst (v := 1) (by decide) ?_
        refine wa_icmp_ne o_X12_best_48 (by decide) (fun h14 => ?_) (fun h14 => ?_)
        · refine wa_iload_n (i := 1) rfl rfl ?_
          refine wa_iconst (v := 2) (by decide) ?_
          refine wa_icmp_ne o_X12_best_59 (by decide) (fun h15 => ?_) (fun h15 => ?_)
          · refine wa_aload_n (i := 0) rfl rfl ?_
            refine wa_getz ck_12 fl_12_1193 ly_84 ?_
            refine wa_rw (congrArg bI (nx_gb_si hs12)) ?_
            refine wa_if_ne o_X12_best_70 (by decide) (fun h16 => ?_) (fun h16 => ?_)
            · replace h16 := bI_t (b := (gb σ 84 177)) (rfl) h16
              refine wa_iload_n (i := 1) rfl rfl ?_
              refine wa_if_ne o_X12_best_81 (by decide) (fun h17 => ?_) (fun h17 => ?_)
              · refine wa_aload_n (i := 0) rfl rfl ?_
                refine wa_getr ck_12 fl_12_426 ly_84 rf_84_181 ?_
                refine wa_iload_n (i := 1) rfl rfl ?_
                refine wa_iconst (v := 3) (by decide) ?_
                refine wa_isub ?_
                refine wa_top (fun v18 hv18 => ?_)
                first | (refine i_subK hv18 ?_ ?_ (fun tv18 => ?_); (((try simp only [vp_in_iff, Int32.lt_iff_toInt_lt, Int32.le_iff_toInt_le, ← Int32.toInt_inj, Int32.reduceToInt, n_1, n_2, n_8, Int32.toNatClampNeg, Int64.lt_iff_toInt_lt, Int64.le_iff_toInt_le, ← Int64.toInt_inj, Int64.reduceToInt, Int32.toInt_toInt64, lg_cmp_ge, lg_cmp_le, lg_cmp_gt, lg_cmp_lt, lg_cmp_eq, Bool.false_eq_true, Bool.true_eq_false, reduceCtorEq, false_iff, true_iff, iff_true, iff_false, and_true, true_and, and_false, false_and, reduceIte, ite_true, ite_false, eq_self] at *)) <;> omega); (((try simp only [vp_in_iff, Int32.lt_iff_toInt_lt, Int32.le_iff_toInt_le, ← Int32.toInt_inj, Int32.reduceToInt, n_1, n_2, n_8, Int32.toNatClampNeg, Int64.lt_iff_toInt_lt, Int64.le_iff_toInt_le, ← Int64.toInt_inj, Int64.reduceToInt, Int32.toInt_toInt64, lg_cmp_ge, lg_cmp_le, lg_cmp_gt, lg_cmp_lt, lg_cmp_eq, Bool.false_eq_true, Bool.true_eq_false, reduceCtorEq, false_iff, true_iff, iff_true, iff_false, and_true, true_and, and_false, false_and, reduceIte, ite_true, ite_false, eq_self] at *)) <;> omega)) | skip
                clear hv18
                refine wa_lald ly_95 (by ((try simp only [vp_in_iff, Int32.lt_iff_toInt_lt, Int32.le_iff_toInt_le, ← Int32.toInt_inj, Int32.reduceToInt, n_1, n_2, n_8, Int32.toNatClampNeg, Int64.lt_iff_toInt_lt, Int64.le_iff_toInt_le, ← Int64.toInt_inj, Int64.reduceToInt, Int32.toInt_toInt64, lg_cmp_ge, lg_cmp_le, lg_cmp_gt, lg_cmp_lt, lg_cmp_eq, Bool.false_eq_true, Bool.true_eq_false, reduceCtorEq, false_iff, true_iff, iff_true, iff_false, and_true, true_and, and_false, false_and, reduceIte, ite_true, ite_false, eq_self] at *)) <;> omega) ?_
                refine wa_lreturn rfl rfl ?_
                exact ⟨_, rfl, Fs12, trivial⟩
              · refine wa_aload_n (i := 0) rfl rfl ?_
                refine wa_getl ck_12 fl_12_1196 ly_84 ?_
                refine wa_rwl (nx_gl_si hs12) ?_
                refine wa_goto o_X12_best_89 (by decide) ?_
                refine wa_lreturn rfl rfl ?_
                exact ⟨_, rfl, Fs12, trivial⟩
            · replace h16 := bI_f (b := (gb σ 84 177)) (rfl) h16
              refine wa_lconst (v := 0) (by decide) ?_
              refine wa_goto o_X12_best_89 (by decide) ?_
              refine wa_lreturn rfl rfl ?_
              exact ⟨_, rfl, Fs12, trivial⟩
          · refine wa_aload_n (i := 0) rfl rfl ?_
            refine wa_geti ck_12 fl_12_1205 ly_84 ?_
            refine wa_rw (nxk_gi_si hs12 (by decide)) ?_
            refine wa_i2l ?_
            refine wa_lreturn rfl rfl ?_
            exact ⟨_, rfl, Fs12, trivial⟩
        · refine wa_aload_n (i := 0) rfl rfl ?_
          refine wa_geti ck_12 fl_12_1217 ly_84 ?_
          refine wa_rw (nxk_gi_si hs12 (by decide)) ?_
          refine wa_i2l ?_
          refine wa_lreturn rfl rfl ?_
          exact ⟨_, rfl, Fs12, trivial⟩
      · refine wa_lconst (v := 0) (by decide) ?_
        refine wa_lreturn rfl rfl ?_
        exact ⟨_, rfl, Fs12, trivial⟩
    · replace h11 := bI_t (b := bx10) (rfl) h11
      have uh11_0 := iff_t cx10_1 h11
      refine wa_iconst (v := 0) (by decide) ?_
      refine wa_goto o_X12_best_25 (by decide) ?_
      refine wa_puti ck_12 fl_12_3 ly_84 (fun s19 hs19 => ?_)
      have Fs19 : Fm [] [0] σ s19 := by rw [hs19]; exact Fm.si (Fm.rf [] [0] σ) rfl
      refine wa_aload_n (i := 0) rfl rfl ?_
      refine wa_geti ck_12 fl_12_3 ly_84 ?_
      refine wa_rw (nxe_gi_si hs19) ?_
      refine wa_if_le o_X12_best_37 (by decide) (fun h20 => ?_) (fun h20 => ?_)
      · refine wa_iload_n (i := 1) rfl rfl ?_
        refine wa_iconst (v := 1) (by decide) ?_
        refine wa_icmp_ne o_X12_best_48 (by decide) (fun h21 => ?_) (fun h21 => ?_)
        · refine wa_iload_n (i := 1) rfl rfl ?_
          refine wa_iconst (v := 2) (by decide) ?_
          refine wa_icmp_ne o_X12_best_59 (by decide) (fun h22 => ?_) (fun h22 => ?_)
          · refine wa_aload_n (i := 0) rfl rfl ?_
            refine wa_getz ck_12 fl_12_1193 ly_84 ?_
            refine wa_rw (congrArg bI (nx_gb_si hs19)) ?_
            refine wa_if_ne o_X12_best_70 (by decide) (fun h23 => ?_) (fun h23 => ?_)
            · replace h23 := bI_t (b := (gb σ 84 177)) (rfl) h23
              refine wa_iload_n (i := 1) rfl rfl ?_
              refine wa_if_ne o_X12_best_81 (by decide) (fun h24 => ?_) (fun h24 => ?_)
              · refine wa_aload_n (i := 0) rfl rfl ?_
                refine wa_getr ck_12 fl_12_426 ly_84 rf_84_181 ?_
                refine wa_iload_n (i := 1) rfl rfl ?_
                refine wa_iconst (v := 3) (by decide) ?_
                refine wa_isub ?_
                refine wa_top (fun v25 hv25 => ?_)
                first | (refine i_subK hv25 ?_ ?_ (fun tv25 => ?_); (((try simp only [vp_in_iff, Int32.lt_iff_toInt_lt, Int32.le_iff_toInt_le, ← Int32.toInt_inj, Int32.reduceToInt, n_1, n_2, n_8, Int32.toNatClampNeg, Int64.lt_iff_toInt_lt, Int64.le_iff_toInt_le, ← Int64.toInt_inj, Int64.reduceToInt, Int32.toInt_toInt64, lg_cmp_ge, lg_cmp_le, lg_cmp_gt, lg_cmp_lt, lg_cmp_eq, Bool.false_eq_true, Bool.true_eq_false, reduceCtorEq, false_iff, true_iff, iff_true, iff_false, and_true, true_and, and_false, false_and, reduceIte, ite_true, ite_false, eq_self] at *)) <;> omega); (((try simp only [vp_in_iff, Int32.lt_iff_toInt_lt, Int32.le_iff_toInt_le, ← Int32.toInt_inj, Int32.reduceToInt, n_1, n_2, n_8, Int32.toNatClampNeg, Int64.lt_iff_toInt_lt, Int64.le_iff_toInt_le, ← Int64.toInt_inj, Int64.reduceToInt, Int32.toInt_toInt64, lg_cmp_ge, lg_cmp_le, lg_cmp_gt, lg_cmp_lt, lg_cmp_eq, Bool.false_eq_true, Bool.true_eq_false, reduceCtorEq, false_iff, true_iff, iff_true, iff_false, and_true, true_and, and_false, false_and, reduceIte, ite_true, ite_false, eq_self] at *)) <;> omega)) | skip
                clear hv25
                refine wa_lald ly_95 (by ((try simp only [vp_in_iff, Int32.lt_iff_toInt_lt, Int32.le_iff_toInt_le, ← Int32.toInt_inj, Int32.reduceToInt, n_1, n_2, n_8, Int32.toNatClampNeg, Int64.lt_iff_toInt_lt, Int64.le_iff_toInt_le, ← Int64.toInt_inj, Int64.reduceToInt, Int32.toInt_toInt64, lg_cmp_ge, lg_cmp_le, lg_cmp_gt, lg_cmp_lt, lg_cmp_eq, Bool.false_eq_true, Bool.true_eq_false, reduceCtorEq, false_iff, true_iff, iff_true, iff_false, and_true, true_and, and_false, false_and, reduceIte, ite_true, ite_false, eq_self] at *)) <;> omega) ?_
                refine wa_lreturn rfl rfl ?_
                exact ⟨_, rfl, Fs19, trivial⟩
              · refine wa_aload_n (i := 0) rfl rfl ?_
                refine wa_getl ck_12 fl_12_1196 ly_84 ?_
                refine wa_rwl (nx_gl_si hs19) ?_
                refine wa_goto o_X12_best_89 (by decide) ?_
                refine wa_lreturn rfl rfl ?_
                exact ⟨_, rfl, Fs19, trivial⟩
            · replace h23 := bI_f (b := (gb σ 84 177)) (rfl) h23
              refine wa_lconst (v := 0) (by decide) ?_
              refine wa_goto o_X12_best_89 (by decide) ?_
              refine wa_lreturn rfl rfl ?_
              exact ⟨_, rfl, Fs19, trivial⟩
          · refine wa_aload_n (i := 0) rfl rfl ?_
            refine wa_geti ck_12 fl_12_1205 ly_84 ?_
            refine wa_rw (nxk_gi_si hs19 (by decide)) ?_
            refine wa_i2l ?_
            refine wa_lreturn rfl rfl ?_
            exact ⟨_, rfl, Fs19, trivial⟩
        · refine wa_aload_n (i := 0) rfl rfl ?_
          refine wa_geti ck_12 fl_12_1217 ly_84 ?_
          refine wa_rw (nxk_gi_si hs19 (by decide)) ?_
          refine wa_i2l ?_
          refine wa_lreturn rfl rfl ?_
          exact ⟨_, rfl, Fs19, trivial⟩
      · refine wa_lconst (v := 0) (by decide) ?_
        refine wa_lreturn rfl rfl ?_
        exact ⟨_, rfl, Fs19, trivial⟩
set_option maxHeartbeats 4000000 in
theorem sp_X12_line (G : kG9) {d : Nat} (hd : 1 ≤ d) (σ : St) (a0 : Int32) (a1 : Int32) (r1 : 0 ≤ (gi σ 84 187).toInt ∧ (gi σ 84 187).toInt ≤ 200) : Ct G M_X12_line d [.ref 84, .int a0, .int a1] σ (fun r σ' => ∃ x : Int64, r = some (.long x) ∧ Fm [] [0] σ σ' ∧ True) := by
  refine wa_start (by decide) rfl (Nat.le_of_ble_eq_true rfl) (lv := [(0, .ref 84), (1, .int a0), (2, .int a1)]) rfl o_X12_line_0 rfl ?_
  have ua0 := Int32.toInt_lt a0
  have wa0 := Int32.le_toInt a0
  have ua1 := Int32.toInt_lt a1
  have wa1 := Int32.le_toInt a1
  refine wa_aload_n (i := 0) rfl rfl ?_
  refine wa_iload_n (i := 1) rfl rfl ?_
  refine wa_i2l ?_
  refine wa_lconst (v := 1) (by decide) ?_
  refine wa_aload_n (i := 0) rfl rfl ?_
  refine wa_geti ck_12 fl_12_1247 ly_84 ?_
  refine wa_i2l ?_
  refine wa_Si (d9 := d - 1) [.long _, .long _, .long _] [.ref 84] (sp_X12_in G (d := d - 1) (by omega) σ _ _ _) (rfl) rfl rfl (zr (by omega)) mk_X12_in ml_12_504 (Nat.le_of_ble_eq_true rfl) (fun x2 s1 hs1 => ?_)
  obtain ⟨bx2, ex2, zs1, cx2_1, -⟩ := pB hs1
  subst ex2
  subst zs1
  refine wa_if_eq o_X12_line_31 (by decide) (fun h3 => ?_) (fun h3 => ?_)
  · replace h3 := bI_f (b := bx2) (rfl) h3
    have uh3_0 := iff_f cx2_1 h3
    refine wa_iconst (v := 1) (by decide) ?_
    refine wa_puti ck_12 fl_12_3 ly_84 (fun s4 hs4 => ?_)
    have Fs4 : Fm [] [0] σ s4 := by rw [hs4]; exact Fm.si (Fm.rf [] [0] σ) rfl
    refine wa_aload_n (i := 0) rfl rfl ?_
    refine wa_geti ck_12 fl_12_3 ly_84 ?_
    refine wa_rw (nxe_gi_si hs4) ?_
    refine wa_if_le o_X12_line_46 (by decide) (fun h5 => ?_) (fun h5 => ?_)
    · refine wa_iload_n (i := 2) rfl rfl ?_
      refine wa_iconst (v := 4) (by decide) ?_
      refine wa_icmp_ne o_X12_line_60 (by decide) (fun h6 => ?_) (fun h6 => ?_)
      · refine wa_aload_n (i := 0) rfl rfl ?_
        refine wa_getr ck_12 fl_12_435 ly_84 rf_84_184 ?_
        refine wa_iconst (v := 4) (by decide) ?_
        refine wa_iload_n (i := 1) rfl rfl ?_
        refine wa_imul ?_
        refine wa_top (fun v7 hv7 => ?_)
        first | (refine i_mulK hv7 ?_ ?_ (fun tv7 => ?_); (((try simp only [vp_in_iff, Int32.lt_iff_toInt_lt, Int32.le_iff_toInt_le, ← Int32.toInt_inj, Int32.reduceToInt, n_1, n_2, n_8, Int32.toNatClampNeg, Int64.lt_iff_toInt_lt, Int64.le_iff_toInt_le, ← Int64.toInt_inj, Int64.reduceToInt, Int32.toInt_toInt64, lg_cmp_ge, lg_cmp_le, lg_cmp_gt, lg_cmp_lt, lg_cmp_eq, Bool.false_eq_true, Bool.true_eq_false, reduceCtorEq, false_iff, true_iff, iff_true, iff_false, and_true, true_and, and_false, false_and, reduceIte, ite_true, ite_false, eq_self] at *)) <;> omega); (((try simp only [vp_in_iff, Int32.lt_iff_toInt_lt, Int32.le_iff_toInt_le, ← Int32.toInt_inj, Int32.reduceToInt, n_1, n_2, n_8, Int32.toNatClampNeg, Int64.lt_iff_toInt_lt, Int64.le_iff_toInt_le, ← Int64.toInt_inj, Int64.reduceToInt, Int32.toInt_toInt64, lg_cmp_ge, lg_cmp_le, lg_cmp_gt, lg_cmp_lt, lg_cmp_eq, Bool.false_eq_true, Bool.true_eq_false, reduceCtorEq, false_iff, true_iff, iff_true, iff_false, and_true, true_and, and_false, false_and, reduceIte, ite_true, ite_false, eq_self] at *)) <;> omega)) | skip
        clear hv7
        refine wa_iload_n (i := 2) rfl rfl ?_
        refine wa_iadd ?_
        refine wa_top (fun v8 hv8 => ?_)
        first | (refine i_addK hv8 ?_ ?_ (fun tv8 => ?_); (((try simp only [vp_in_iff, Int32.lt_iff_toInt_lt, Int32.le_iff_toInt_le, ← Int32.toInt_inj, Int32.reduceToInt, n_1, n_2, n_8, Int32.toNatClampNeg, Int64.lt_iff_toInt_lt, Int64.le_iff_toInt_le, ← Int64.toInt_inj, Int64.reduceToInt, Int32.toInt_toInt64, lg_cmp_ge, lg_cmp_le, lg_cmp_gt, lg_cmp_lt, lg_cmp_eq, Bool.false_eq_true, Bool.true_eq_false, reduceCtorEq, false_iff, true_iff, iff_true, iff_false, and_true, true_and, and_false, false_and, reduceIte, ite_true, ite_false, eq_self] at *)) <;> omega); (((try simp only [vp_in_iff, Int32.lt_iff_toInt_lt, Int32.le_iff_toInt_le, ← Int32.toInt_inj, Int32.reduceToInt, n_1, n_2, n_8, Int32.toNatClampNeg, Int64.lt_iff_toInt_lt, Int64.le_iff_toInt_le, ← Int64.toInt_inj, Int64.reduceToInt, Int32.toInt_toInt64, lg_cmp_ge, lg_cmp_le, lg_cmp_gt, lg_cmp_lt, lg_cmp_eq, Bool.false_eq_true, Bool.true_eq_false, reduceCtorEq, false_iff, true_iff, iff_true, iff_false, and_true, true_and, and_false, false_and, reduceIte, ite_true, ite_false, eq_self] at *)) <;> omega)) | skip
        clear hv8
        refine wa_lald ly_92 (by ((try simp only [vp_in_iff, Int32.lt_iff_toInt_lt, Int32.le_iff_toInt_le, ← Int32.toInt_inj, Int32.reduceToInt, n_1, n_2, n_8, Int32.toNatClampNeg, Int64.lt_iff_toInt_lt, Int64.le_iff_toInt_le, ← Int64.toInt_inj, Int64.reduceToInt, Int32.toInt_toInt64, lg_cmp_ge, lg_cmp_le, lg_cmp_gt, lg_cmp_lt, lg_cmp_eq, Bool.false_eq_true, Bool.true_eq_false, reduceCtorEq, false_iff, true_iff, iff_true, iff_false, and_true, true_and, and_false, false_and, reduceIte, ite_true, ite_false, eq_self] at *)) <;> omega) ?_
        refine wa_lreturn rfl rfl ?_
        exact ⟨_, rfl, Fs4, trivial⟩
      · refine wa_aload_n (i := 0) rfl rfl ?_
        refine wa_getr ck_12 fl_12_438 ly_84 rf_84_185 ?_
        refine wa_iload_n (i := 1) rfl rfl ?_
        refine wa_lald ly_91 (by ((try simp only [vp_in_iff, Int32.lt_iff_toInt_lt, Int32.le_iff_toInt_le, ← Int32.toInt_inj, Int32.reduceToInt, n_1, n_2, n_8, Int32.toNatClampNeg, Int64.lt_iff_toInt_lt, Int64.le_iff_toInt_le, ← Int64.toInt_inj, Int64.reduceToInt, Int32.toInt_toInt64, lg_cmp_ge, lg_cmp_le, lg_cmp_gt, lg_cmp_lt, lg_cmp_eq, Bool.false_eq_true, Bool.true_eq_false, reduceCtorEq, false_iff, true_iff, iff_true, iff_false, and_true, true_and, and_false, false_and, reduceIte, ite_true, ite_false, eq_self] at *)) <;> omega) ?_
        refine wa_goto o_X12_line_70 (by decide) ?_
        refine wa_lreturn rfl rfl ?_
        exact ⟨_, rfl, Fs4, trivial⟩
    · refine wa_lconst (v := 0) (by decide) ?_
      refine wa_goto o_X12_line_70 (by decide) ?_
      refine wa_lreturn rfl rfl ?_
      exact ⟨_, rfl, Fs4, trivial⟩
  · replace h3 := bI_t (b := bx2) (rfl) h3
    have uh3_0 := iff_t cx2_1 h3
    refine wa_iload_n (i := 2) rfl rfl ?_
    refine wa_i2l ?_
    refine wa_lconst (v := 0) (by decide) ?_
    refine wa_ldc2 (v := (4)) (allW_in (kT_12 _ (List.mem_of_getElem? (i := 125) rfl)) rfl) ?_
    refine wa_Si (d9 := d - 1) [.long _, .long _, .long _] [.ref 84] (sp_X12_in G (d := d - 1) (by omega) σ _ _ _) (rfl) rfl rfl (zr (by omega)) mk_X12_in ml_12_504 (Nat.le_of_ble_eq_true rfl) (fun x10 s9 hs9 => ?_)
    obtain ⟨bx10, ex10, zs9, cx10_1, -⟩ := pB hs9
    subst ex10
    subst zs9
    refine wa_if_eq o_X12_line_31 (by decide) (fun h11 => ?_) (fun h11 => ?_)
    · replace h11 := bI_f (b := bx10) (rfl) h11
      have uh11_0 := iff_f cx10_1 h11
      refine wa_iconst (v := 1) (by decide) ?_
      refine wa_puti ck_12 fl_12_3 ly_84 (fun s12 hs12 => ?_)
      have Fs12 : Fm [] [0] σ s12 := by rw [hs12]; exact Fm.si (Fm.rf [] [0] σ) rfl
      refine wa_aload_n (i := 0) rfl rfl ?_
      refine wa_geti ck_12 fl_12_3 ly_84 ?_
      refine wa_rw (nxe_gi_si hs12) ?_
      refine wa_if_le o_X12_line_46 (by decide) (fun h13 => ?_) (fun h13 => ?_)
      · refine wa_iload_n (i := 2) rfl rfl ?_
        refine wa_iconst (v := 4) (by decide) ?_
        refine wa_icmp_ne o_X12_line_60 (by decide) (fun h14 => ?_) (fun h14 => ?_)
        · refine wa_aload_n (i := 0) rfl rfl ?_
          refine wa_getr ck_12 fl_12_435 ly_84 rf_84_184 ?_
          refine wa_iconst (v := 4) (by decide) ?_
          refine wa_iload_n (i := 1) rfl rfl ?_
          refine wa_imul ?_
          refine wa_top (fun v15 hv15 => ?_)
          first | (refine i_mulK hv15 ?_ ?_ (fun tv15 => ?_); (((try simp only [vp_in_iff, Int32.lt_iff_toInt_lt, Int32.le_iff_toInt_le, ← Int32.toInt_inj, Int32.reduceToInt, n_1, n_2, n_8, Int32.toNatClampNeg, Int64.lt_iff_toInt_lt, Int64.le_iff_toInt_le, ← Int64.toInt_inj, Int64.reduceToInt, Int32.toInt_toInt64, lg_cmp_ge, lg_cmp_le, lg_cmp_gt, lg_cmp_lt, lg_cmp_eq, Bool.false_eq_true, Bool.true_eq_false, reduceCtorEq, false_iff, true_iff, iff_true, iff_false, and_true, true_and, and_false, false_and, reduceIte, ite_true, ite_false, eq_self] at *)) <;> omega); (((try simp only [vp_in_iff, Int32.lt_iff_toInt_lt, Int32.le_iff_toInt_le, ← Int32.toInt_inj, Int32.reduceToInt, n_1, n_2, n_8, Int32.toNatClampNeg, Int64.lt_iff_toInt_lt, Int64.le_iff_toInt_le, ← Int64.toInt_inj, Int64.reduceToInt, Int32.toInt_toInt64, lg_cmp_ge, lg_cmp_le, lg_cmp_gt, lg_cmp_lt, lg_cmp_eq, Bool.false_eq_true, Bool.true_eq_false, reduceCtorEq, false_iff, true_iff, iff_true, iff_false, and_true, true_and, and_false, false_and, reduceIte, ite_true, ite_false, eq_self] at *)) <;> omega)) | skip
          clear hv15
          refine wa_iload_n (i := 2) rfl rfl ?_
          refine wa_iadd ?_
          refine wa_top (fun v16 hv16 => ?_)
          first | (refine i_addK hv16 ?_ ?_ (fun tv16 => ?_); (((try simp only [vp_in_iff, Int32.lt_iff_toInt_lt, Int32.le_iff_toInt_le, ← Int32.toInt_inj, Int32.reduceToInt, n_1, n_2, n_8, Int32.toNatClampNeg, Int64.lt_iff_toInt_lt, Int64.le_iff_toInt_le, ← Int64.toInt_inj, Int64.reduceToInt, Int32.toInt_toInt64, lg_cmp_ge, lg_cmp_le, lg_cmp_gt, lg_cmp_lt, lg_cmp_eq, Bool.false_eq_true, Bool.true_eq_false, reduceCtorEq, false_iff, true_iff, iff_true, iff_false, and_true, true_and, and_false, false_and, reduceIte, ite_true, ite_false, eq_self] at *)) <;> omega); (((try simp only [vp_in_iff, Int32.lt_iff_toInt_lt, Int32.le_iff_toInt_le, ← Int32.toInt_inj, Int32.reduceToInt, n_1, n_2, n_8, Int32.toNatClampNeg, Int64.lt_iff_toInt_lt, Int64.le_iff_toInt_le, ← Int64.toInt_inj, Int64.reduceToInt, Int32.toInt_toInt64, lg_cmp_ge, lg_cmp_le, lg_cmp_gt, lg_cmp_lt, lg_cmp_eq, Bool.false_eq_true, Bool.true_eq_false, reduceCtorEq, false_iff, true_iff, iff_true, iff_false, and_true, true_and, and_false, false_and, reduceIte, ite_true, ite_false, eq_self] at *)) <;> omega)) | skip
          clear hv16
          refine wa_lald ly_92 (by ((try simp only [vp_in_iff, Int32.lt_iff_toInt_lt, Int32.le_iff_toInt_le, ← Int32.toInt_inj, Int32.reduceToInt, n_1, n_2, n_8, Int32.toNatClampNeg, Int64.lt_iff_toInt_lt, Int64.le_iff_toInt_le, ← Int64.toInt_inj, Int64.reduceToInt, Int32.toInt_toInt64, lg_cmp_ge, lg_cmp_le, lg_cmp_gt, lg_cmp_lt, lg_cmp_eq, Bool.false_eq_true, Bool.true_eq_false, reduceCtorEq, false_iff, true_iff, iff_true, iff_false, and_true, true_and, and_false, false_and, reduceIte, ite_true, ite_false, eq_self] at *)) <;> omega) ?_
          refine wa_lreturn rfl rfl ?_
          exact ⟨_, rfl, Fs12, trivial⟩
        · refine wa_aload_n (i := 0) rfl rfl ?_
          refine wa_getr ck_12 fl_12_438 ly_84 rf_84_185 ?_
          refine wa_iload_n (i := 1) rfl rfl ?_
          refine wa_lald ly_91 (by ((try simp only [vp_in_iff, Int32.lt_iff_toInt_lt, Int32.le_iff_toInt_le, ← Int32.toInt_inj, Int32.reduceToInt, n_1, n_2, n_8, Int32.toNatClampNeg, Int64.lt_iff_toInt_lt, Int64.le_iff_toInt_le, ← Int64.toInt_inj, Int64.reduceToInt, Int32.toInt_toInt64, lg_cmp_ge, lg_cmp_le, lg_cmp_gt, lg_cmp_lt, lg_cmp_eq, Bool.false_eq_true, Bool.true_eq_false, reduceCtorEq, false_iff, true_iff, iff_true, iff_false, and_true, true_and, and_false, false_and, reduceIte, ite_true, ite_false, eq_self] at *)) <;> omega) ?_
          refine wa_goto o_X12_line_70 (by decide) ?_
          refine wa_lreturn rfl rfl ?_
          exact ⟨_, rfl, Fs12, trivial⟩
      · refine wa_lconst (v := 0) (by decide) ?_
        refine wa_goto o_X12_line_70 (by decide) ?_
        refine wa_lreturn rfl rfl ?_
        exact ⟨_, rfl, Fs12, trivial⟩
    · replace h11 := bI_t (b := bx10) (rfl) h11
      have uh11_0 := iff_t cx10_1 h11
      refine wa_iconst (v := 0) (by decide) ?_
      refine wa_goto o_X12_line_32 (by decide) ?_
      refine wa_puti ck_12 fl_12_3 ly_84 (fun s17 hs17 => ?_)
      have Fs17 : Fm [] [0] σ s17 := by rw [hs17]; exact Fm.si (Fm.rf [] [0] σ) rfl
      refine wa_aload_n (i := 0) rfl rfl ?_
      refine wa_geti ck_12 fl_12_3 ly_84 ?_
      refine wa_rw (nxe_gi_si hs17) ?_
      refine wa_if_le o_X12_line_46 (by decide) (fun h18 => ?_) (fun h18 => ?_)
      · refine wa_iload_n (i := 2) rfl rfl ?_
        refine wa_iconst (v := 4) (by decide) ?_
        refine wa_icmp_ne o_X12_line_60 (by decide) (fun h19 => ?_) (fun h19 => ?_)
        · refine wa_aload_n (i := 0) rfl rfl ?_
          refine wa_getr ck_12 fl_12_435 ly_84 rf_84_184 ?_
          refine wa_iconst (v := 4) (by decide) ?_
          refine wa_iload_n (i := 1) rfl rfl ?_
          refine wa_imul ?_
          refine wa_top (fun v20 hv20 => ?_)
          first | (refine i_mulK hv20 ?_ ?_ (fun tv20 => ?_); (((try simp only [vp_in_iff, Int32.lt_iff_toInt_lt, Int32.le_iff_toInt_le, ← Int32.toInt_inj, Int32.reduceToInt, n_1, n_2, n_8, Int32.toNatClampNeg, Int64.lt_iff_toInt_lt, Int64.le_iff_toInt_le, ← Int64.toInt_inj, Int64.reduceToInt, Int32.toInt_toInt64, lg_cmp_ge, lg_cmp_le, lg_cmp_gt, lg_cmp_lt, lg_cmp_eq, Bool.false_eq_true, Bool.true_eq_false, reduceCtorEq, false_iff, true_iff, iff_true, iff_false, and_true, true_and, and_false, false_and, reduceIte, ite_true, ite_false, eq_self] at *)) <;> omega); (((try simp only [vp_in_iff, Int32.lt_iff_toInt_lt, Int32.le_iff_toInt_le, ← Int32.toInt_inj, Int32.reduceToInt, n_1, n_2, n_8, Int32.toNatClampNeg, Int64.lt_iff_toInt_lt, Int64.le_iff_toInt_le, ← Int64.toInt_inj, Int64.reduceToInt, Int32.toInt_toInt64, lg_cmp_ge, lg_cmp_le, lg_cmp_gt, lg_cmp_lt, lg_cmp_eq, Bool.false_eq_true, Bool.true_eq_false, reduceCtorEq, false_iff, true_iff, iff_true, iff_false, and_true, true_and, and_false, false_and, reduceIte, ite_true, ite_false, eq_self] at *)) <;> omega)) | skip
          clear hv20
          refine wa_iload_n (i := 2) rfl rfl ?_
          refine wa_iadd ?_
          refine wa_top (fun v21 hv21 => ?_)
          first | (refine i_addK hv21 ?_ ?_ (fun tv21 => ?_); (((try simp only [vp_in_iff, Int32.lt_iff_toInt_lt, Int32.le_iff_toInt_le, ← Int32.toInt_inj, Int32.reduceToInt, n_1, n_2, n_8, Int32.toNatClampNeg, Int64.lt_iff_toInt_lt, Int64.le_iff_toInt_le, ← Int64.toInt_inj, Int64.reduceToInt, Int32.toInt_toInt64, lg_cmp_ge, lg_cmp_le, lg_cmp_gt, lg_cmp_lt, lg_cmp_eq, Bool.false_eq_true, Bool.true_eq_false, reduceCtorEq, false_iff, true_iff, iff_true, iff_false, and_true, true_and, and_false, false_and, reduceIte, ite_true, ite_false, eq_self] at *)) <;> omega); (((try simp only [vp_in_iff, Int32.lt_iff_toInt_lt, Int32.le_iff_toInt_le, ← Int32.toInt_inj, Int32.reduceToInt, n_1, n_2, n_8, Int32.toNatClampNeg, Int64.lt_iff_toInt_lt, Int64.le_iff_toInt_le, ← Int64.toInt_inj, Int64.reduceToInt, Int32.toInt_toInt64, lg_cmp_ge, lg_cmp_le, lg_cmp_gt, lg_cmp_lt, lg_cmp_eq, Bool.false_eq_true, Bool.true_eq_false, reduceCtorEq, false_iff, true_iff, iff_true, iff_false, and_true, true_and, and_false, false_and, reduceIte, ite_true, ite_false, eq_self] at *)) <;> omega)) | skip
          clear hv21
          refine wa_lald ly_92 (by ((try simp only [vp_in_iff, Int32.lt_iff_toInt_lt, Int32.le_iff_toInt_le, ← Int32.toInt_inj, Int32.reduceToInt, n_1, n_2, n_8, Int32.toNatClampNeg, Int64.lt_iff_toInt_lt, Int64.le_iff_toInt_le, ← Int64.toInt_inj, Int64.reduceToInt, Int32.toInt_toInt64, lg_cmp_ge, lg_cmp_le, lg_cmp_gt, lg_cmp_lt, lg_cmp_eq, Bool.false_eq_true, Bool.true_eq_false, reduceCtorEq, false_iff, true_iff, iff_true, iff_false, and_true, true_and, and_false, false_and, reduceIte, ite_true, ite_false, eq_self] at *)) <;> omega) ?_
          refine wa_lreturn rfl rfl ?_
          exact ⟨_, rfl, Fs17, trivial⟩
        · refine wa_aload_n (i := 0) rfl rfl ?_
          refine wa_getr ck_12 fl_12_438 ly_84 rf_84_185 ?_
          refine wa_iload_n (i := 1) rfl rfl ?_
          refine wa_lald ly_91 (by ((try simp only [vp_in_iff, Int32.lt_iff_toInt_lt, Int32.le_iff_toInt_le, ← Int32.toInt_inj, Int32.reduceToInt, n_1, n_2, n_8, Int32.toNatClampNeg, Int64.lt_iff_toInt_lt, Int64.le_iff_toInt_le, ← Int64.toInt_inj, Int64.reduceToInt, Int32.toInt_toInt64, lg_cmp_ge, lg_cmp_le, lg_cmp_gt, lg_cmp_lt, lg_cmp_eq, Bool.false_eq_true, Bool.true_eq_false, reduceCtorEq, false_iff, true_iff, iff_true, iff_false, and_true, true_and, and_false, false_and, reduceIte, ite_true, ite_false, eq_self] at *)) <;> omega) ?_
          refine wa_goto o_X12_line_70 (by decide) ?_
          refine wa_lreturn rfl rfl ?_
          exact ⟨_, rfl, Fs17, trivial⟩
      · refine wa_lconst (v := 0) (by decide) ?_
        refine wa_goto o_X12_line_70 (by decide) ?_
        refine wa_lreturn rfl rfl ?_
        exact ⟨_, rfl, Fs17, trivial⟩
set_option maxHeartbeats 4000000 in
theorem sp_X12_max (G : kG9) {d : Nat} (hd : 0 ≤ d) (σ : St) (a0 : Int64) (a1 : Int64) : Ct G M_X12_max d [.long a0, .long a1] σ (fun r σ' => ∃ x : Int64, r = some (.long x) ∧ σ = σ' ∧ (a0.toInt ≤ x.toInt) ∧ (a1.toInt ≤ x.toInt) ∧ (x.toInt ≤ a0.toInt ∨ x.toInt ≤ a1.toInt) ∧ True) := by
  refine wa_start (by decide) rfl (Nat.le_of_ble_eq_true rfl) (lv := [(0, .long a0), (2, .long a1)]) rfl o_X12_max_0 rfl ?_
  refine wa_lload_n (i := 0) rfl rfl ?_
  refine wa_lload_n (i := 2) rfl rfl ?_
  refine wa_lcmp ?_
  refine wa_top (fun v1 hv1 => ?_)
  have tv1 := i_cmpT hv1
  clear hv1
  refine wa_if_le o_X12_max_10 (by decide) (fun h2 => ?_) (fun h2 => ?_)
  · refine wa_lload_n (i := 2) rfl rfl ?_
    refine wa_lreturn rfl rfl ?_
    exact ⟨_, rfl, rfl, (by ((try simp only [vp_in_iff, Int32.lt_iff_toInt_lt, Int32.le_iff_toInt_le, ← Int32.toInt_inj, Int32.reduceToInt, n_1, n_2, n_8, Int32.toNatClampNeg, Int64.lt_iff_toInt_lt, Int64.le_iff_toInt_le, ← Int64.toInt_inj, Int64.reduceToInt, Int32.toInt_toInt64, lg_cmp_ge, lg_cmp_le, lg_cmp_gt, lg_cmp_lt, lg_cmp_eq, Bool.false_eq_true, Bool.true_eq_false, reduceCtorEq, false_iff, true_iff, iff_true, iff_false, and_true, true_and, and_false, false_and, reduceIte, ite_true, ite_false, eq_self] at *)) <;> omega), (by ((try simp only [vp_in_iff, Int32.lt_iff_toInt_lt, Int32.le_iff_toInt_le, ← Int32.toInt_inj, Int32.reduceToInt, n_1, n_2, n_8, Int32.toNatClampNeg, Int64.lt_iff_toInt_lt, Int64.le_iff_toInt_le, ← Int64.toInt_inj, Int64.reduceToInt, Int32.toInt_toInt64, lg_cmp_ge, lg_cmp_le, lg_cmp_gt, lg_cmp_lt, lg_cmp_eq, Bool.false_eq_true, Bool.true_eq_false, reduceCtorEq, false_iff, true_iff, iff_true, iff_false, and_true, true_and, and_false, false_and, reduceIte, ite_true, ite_false, eq_self] at *)) <;> omega), (by ((try simp only [vp_in_iff, Int32.lt_iff_toInt_lt, Int32.le_iff_toInt_le, ← Int32.toInt_inj, Int32.reduceToInt, n_1, n_2, n_8, Int32.toNatClampNeg, Int64.lt_iff_toInt_lt, Int64.le_iff_toInt_le, ← Int64.toInt_inj, Int64.reduceToInt, Int32.toInt_toInt64, lg_cmp_ge, lg_cmp_le, lg_cmp_gt, lg_cmp_lt, lg_cmp_eq, Bool.false_eq_true, Bool.true_eq_false, reduceCtorEq, false_iff, true_iff, iff_true, iff_false, and_true, true_and, and_false, false_and, reduceIte, ite_true, ite_false, eq_self] at *)) <;> omega), trivial⟩
  · refine wa_lload_n (i := 0) rfl rfl ?_
    refine wa_goto o_X12_max_11 (by decide) ?_
    refine wa_lreturn rfl rfl ?_
    exact ⟨_, rfl, rfl, (by ((try simp only [vp_in_iff, Int32.lt_iff_toInt_lt, Int32.le_iff_toInt_le, ← Int32.toInt_inj, Int32.reduceToInt, n_1, n_2, n_8, Int32.toNatClampNeg, Int64.lt_iff_toInt_lt, Int64.le_iff_toInt_le, ← Int64.toInt_inj, Int64.reduceToInt, Int32.toInt_toInt64, lg_cmp_ge, lg_cmp_le, lg_cmp_gt, lg_cmp_lt, lg_cmp_eq, Bool.false_eq_true, Bool.true_eq_false, reduceCtorEq, false_iff, true_iff, iff_true, iff_false, and_true, true_and, and_false, false_and, reduceIte, ite_true, ite_false, eq_self] at *)) <;> omega), (by ((try simp only [vp_in_iff, Int32.lt_iff_toInt_lt, Int32.le_iff_toInt_le, ← Int32.toInt_inj, Int32.reduceToInt, n_1, n_2, n_8, Int32.toNatClampNeg, Int64.lt_iff_toInt_lt, Int64.le_iff_toInt_le, ← Int64.toInt_inj, Int64.reduceToInt, Int32.toInt_toInt64, lg_cmp_ge, lg_cmp_le, lg_cmp_gt, lg_cmp_lt, lg_cmp_eq, Bool.false_eq_true, Bool.true_eq_false, reduceCtorEq, false_iff, true_iff, iff_true, iff_false, and_true, true_and, and_false, false_and, reduceIte, ite_true, ite_false, eq_self] at *)) <;> omega), (by ((try simp only [vp_in_iff, Int32.lt_iff_toInt_lt, Int32.le_iff_toInt_le, ← Int32.toInt_inj, Int32.reduceToInt, n_1, n_2, n_8, Int32.toNatClampNeg, Int64.lt_iff_toInt_lt, Int64.le_iff_toInt_le, ← Int64.toInt_inj, Int64.reduceToInt, Int32.toInt_toInt64, lg_cmp_ge, lg_cmp_le, lg_cmp_gt, lg_cmp_lt, lg_cmp_eq, Bool.false_eq_true, Bool.true_eq_false, reduceCtorEq, false_iff, true_iff, iff_true, iff_false, and_true, true_and, and_false, false_and, reduceIte, ite_true, ite_false, eq_self] at *)) <;> omega), trivial⟩
set_option maxHeartbeats 4000000 in
theorem sp_X12_times (G : kG9) {d : Nat} (hd : 0 ≤ d) (σ : St) (a0 : Int64) (p1 : 0 ≤ a0.toInt ∧ a0.toInt < 100000000) (r1 : 0 ≤ (gi σ 84 194).toInt ∧ (gi σ 84 194).toInt ≤ 3990) (A_85 : AR ap_85 σ 85) : Ct G M_X12_times d [.ref 84, .long a0] σ (fun r σ' => Fm [85] [194] σ σ' ∧ ((gi σ 84 194).toInt ≤ (gi σ' 84 194).toInt ∧ (gi σ' 84 194).toInt ≤ (gi σ 84 194).toInt + 2) ∧ AR ap_85 σ' 85 ∧ True) := by
  refine wa_start (by decide) rfl (Nat.le_of_ble_eq_true rfl) (lv := [(0, .ref 84), (1, .long a0)]) rfl o_X12_times_0 rfl ?_
  refine wa_lconst (v := 0) (by decide) ?_
  refine wa_lstore_nD (lv' := [(3, .long 0), (0, .ref 84), (1, .long a0)]) (i := 3) rfl (by decide) rfl ?_
  refine wa_iconst (v := 0) (by decide) ?_
  refine wa_istoreD (lv' := [(5, .int 0), (3, .long 0), (0, .ref 84), (1, .long a0)]) (by decide) rfl ?_
  refine wa_pick [2, 3, 1, 0] rfl ?_
  have hi3 : ∀ (n9_5 : Nat) (l3 : Int64) (l5 : Int32) (s1 : St), ((Fm [85] [194] σ s1) ∧ (gi s1 84 194 = gi σ 84 194) ∧ (AR ap_85 s1 85) ∧ (0 ≤ l5.toInt) ∧ (0 ≤ l3.toInt ∧ l3.toInt ≤ a0.toInt) ∧ (True)) → (2147483647 - l5.toInt).toNat = n9_5 → WA G M_X12_times (ZM G M_X12_times d (fun r σ' => Fm [85] [194] σ σ' ∧ ((gi σ 84 194).toInt ≤ (gi σ' 84 194).toInt ∧ (gi σ' 84 194).toInt ≤ (gi σ 84 194).toInt + 2) ∧ AR ap_85 σ' 85 ∧ True)) B_X12_times_5 [(0, .ref 84), (1, .long a0), (3, .long l3), (5, .int l5)] [] s1 := by
    intro n9_5
    induction n9_5 using Nat.strongRecOn with
    | _ n9_5 ih2 =>
      intro l3 l5 s1 i9 m9_5
      obtain ⟨Fs1, khi3_0, As1_85, jhi3_0, jhi3_1, -⟩ := i9
      have ul5 := Int32.toInt_lt l5
      have wl5 := Int32.le_toInt l5
      refine wa_iload rfl ?_
      refine wa_aload_n (i := 0) rfl rfl ?_
      refine wa_geti ck_12 fl_12_1299 ly_84 ?_
      refine wa_rw (khi3_0) ?_
      refine wa_icmp_ge o_X12_times_55 (by decide) (fun h4 => ?_) (fun h4 => ?_)
      · refine wa_pick [0, 2] rfl ?_
        have hi7 : ∀ (n9_55 : Nat) (l3 : Int64) (s5 : St), ((Fm [85] [194] σ s5) ∧ (AR ap_85 s5 85) ∧ (0 ≤ l3.toInt) ∧ (((gi s5 84 194).toInt = (gi σ 84 194).toInt ∧ l3.toInt < 100000000) ∨ ((gi s5 84 194).toInt = (gi σ 84 194).toInt + 1 ∧ l3.toInt < 10000) ∨ ((gi s5 84 194).toInt = (gi σ 84 194).toInt + 2 ∧ l3.toInt = 0)) ∧ (True)) → (l3.toInt).toNat = n9_55 → WA G M_X12_times (ZM G M_X12_times d (fun r σ' => Fm [85] [194] σ σ' ∧ ((gi σ 84 194).toInt ≤ (gi σ' 84 194).toInt ∧ (gi σ' 84 194).toInt ≤ (gi σ 84 194).toInt + 2) ∧ AR ap_85 σ' 85 ∧ True)) B_X12_times_55 [(0, .ref 84), (3, .long l3)] [] s5 := by
          intro n9_55
          induction n9_55 using Nat.strongRecOn with
          | _ n9_55 ih6 =>
            intro l3 s5 i9 m9_55
            obtain ⟨Fs5, As5_85, jhi7_0, jhi7_1, -⟩ := i9
            refine wa_lload_n (i := 3) rfl rfl ?_
            refine wa_lconst (v := 0) (by decide) ?_
            refine wa_lcmp ?_
            refine wa_top (fun v8 hv8 => ?_)
            have tv8 := i_cmpT hv8
            clear hv8
            refine wa_if_le o_X12_times_95 (by decide) (fun h9 => ?_) (fun h9 => ?_)
            · refine wa_return (st := []) rfl rfl ?_
              exact ⟨Fs5, (by first | assumption | (((try simp only [vp_in_iff, Int32.lt_iff_toInt_lt, Int32.le_iff_toInt_le, ← Int32.toInt_inj, Int32.reduceToInt, n_1, n_2, n_8, Int32.toNatClampNeg, Int64.lt_iff_toInt_lt, Int64.le_iff_toInt_le, ← Int64.toInt_inj, Int64.reduceToInt, Int32.toInt_toInt64, lg_cmp_ge, lg_cmp_le, lg_cmp_gt, lg_cmp_lt, lg_cmp_eq, Bool.false_eq_true, Bool.true_eq_false, reduceCtorEq, false_iff, true_iff, iff_true, iff_false, and_true, true_and, and_false, false_and, reduceIte, ite_true, ite_false, eq_self] at *)) <;> omega)), As5_85, trivial⟩
            · refine wa_aload_n (i := 0) rfl rfl ?_
              refine wa_getr ck_12 fl_12_456 ly_84 rf_84_193 ?_
              refine wa_aload_n (i := 0) rfl rfl ?_
              refine wa_geti ck_12 fl_12_1299 ly_84 ?_
              refine wa_lload_n (i := 3) rfl rfl ?_
              refine wa_ldc2 (v := (10000)) (allW_in (kT_16 _ (List.mem_of_getElem? (i := 11) rfl)) rfl) ?_
              refine wa_lrem (by ((try simp only [vp_in_iff, Int32.lt_iff_toInt_lt, Int32.le_iff_toInt_le, ← Int32.toInt_inj, Int32.reduceToInt, n_1, n_2, n_8, Int32.toNatClampNeg, Int64.lt_iff_toInt_lt, Int64.le_iff_toInt_le, ← Int64.toInt_inj, Int64.reduceToInt, Int32.toInt_toInt64, lg_cmp_ge, lg_cmp_le, lg_cmp_gt, lg_cmp_lt, lg_cmp_eq, Bool.false_eq_true, Bool.true_eq_false, reduceCtorEq, false_iff, true_iff, iff_true, iff_false, and_true, true_and, and_false, false_and, reduceIte, ite_true, ite_false, eq_self] at *)) <;> omega) ?_
              refine wa_topl (fun v10 hv10 => ?_)
              first | (refine l_remK hv10 ?_ ?_ (fun tv10 => ?_); (((try simp only [vp_in_iff, Int32.lt_iff_toInt_lt, Int32.le_iff_toInt_le, ← Int32.toInt_inj, Int32.reduceToInt, n_1, n_2, n_8, Int32.toNatClampNeg, Int64.lt_iff_toInt_lt, Int64.le_iff_toInt_le, ← Int64.toInt_inj, Int64.reduceToInt, Int32.toInt_toInt64, lg_cmp_ge, lg_cmp_le, lg_cmp_gt, lg_cmp_lt, lg_cmp_eq, Bool.false_eq_true, Bool.true_eq_false, reduceCtorEq, false_iff, true_iff, iff_true, iff_false, and_true, true_and, and_false, false_and, reduceIte, ite_true, ite_false, eq_self] at *)) <;> omega); (((try simp only [vp_in_iff, Int32.lt_iff_toInt_lt, Int32.le_iff_toInt_le, ← Int32.toInt_inj, Int32.reduceToInt, n_1, n_2, n_8, Int32.toNatClampNeg, Int64.lt_iff_toInt_lt, Int64.le_iff_toInt_le, ← Int64.toInt_inj, Int64.reduceToInt, Int32.toInt_toInt64, lg_cmp_ge, lg_cmp_le, lg_cmp_gt, lg_cmp_lt, lg_cmp_eq, Bool.false_eq_true, Bool.true_eq_false, reduceCtorEq, false_iff, true_iff, iff_true, iff_false, and_true, true_and, and_false, false_and, reduceIte, ite_true, ite_false, eq_self] at *)) <;> omega)) | (refine l_remK2 hv10 ?_ (fun tv10 => ?_); (((try simp only [vp_in_iff, Int32.lt_iff_toInt_lt, Int32.le_iff_toInt_le, ← Int32.toInt_inj, Int32.reduceToInt, n_1, n_2, n_8, Int32.toNatClampNeg, Int64.lt_iff_toInt_lt, Int64.le_iff_toInt_le, ← Int64.toInt_inj, Int64.reduceToInt, Int32.toInt_toInt64, lg_cmp_ge, lg_cmp_le, lg_cmp_gt, lg_cmp_lt, lg_cmp_eq, Bool.false_eq_true, Bool.true_eq_false, reduceCtorEq, false_iff, true_iff, iff_true, iff_false, and_true, true_and, and_false, false_and, reduceIte, ite_true, ite_false, eq_self] at *)) <;> omega)) | skip
              clear hv10
              refine wa_l2i ?_
              refine wa_top (fun v11 hv11 => ?_)
              first | (refine i_l2iK hv11 ?_ ?_ (fun tv11 => ?_); (((try simp only [vp_in_iff, Int32.lt_iff_toInt_lt, Int32.le_iff_toInt_le, ← Int32.toInt_inj, Int32.reduceToInt, n_1, n_2, n_8, Int32.toNatClampNeg, Int64.lt_iff_toInt_lt, Int64.le_iff_toInt_le, ← Int64.toInt_inj, Int64.reduceToInt, Int32.toInt_toInt64, lg_cmp_ge, lg_cmp_le, lg_cmp_gt, lg_cmp_lt, lg_cmp_eq, Bool.false_eq_true, Bool.true_eq_false, reduceCtorEq, false_iff, true_iff, iff_true, iff_false, and_true, true_and, and_false, false_and, reduceIte, ite_true, ite_false, eq_self] at *)) <;> omega); (((try simp only [vp_in_iff, Int32.lt_iff_toInt_lt, Int32.le_iff_toInt_le, ← Int32.toInt_inj, Int32.reduceToInt, n_1, n_2, n_8, Int32.toNatClampNeg, Int64.lt_iff_toInt_lt, Int64.le_iff_toInt_le, ← Int64.toInt_inj, Int64.reduceToInt, Int32.toInt_toInt64, lg_cmp_ge, lg_cmp_le, lg_cmp_gt, lg_cmp_lt, lg_cmp_eq, Bool.false_eq_true, Bool.true_eq_false, reduceCtorEq, false_iff, true_iff, iff_true, iff_false, and_true, true_and, and_false, false_and, reduceIte, ite_true, ite_false, eq_self] at *)) <;> omega)) | skip
              clear hv11
              refine wa_iast ly_85 (by ((try simp only [vp_in_iff, Int32.lt_iff_toInt_lt, Int32.le_iff_toInt_le, ← Int32.toInt_inj, Int32.reduceToInt, n_1, n_2, n_8, Int32.toNatClampNeg, Int64.lt_iff_toInt_lt, Int64.le_iff_toInt_le, ← Int64.toInt_inj, Int64.reduceToInt, Int32.toInt_toInt64, lg_cmp_ge, lg_cmp_le, lg_cmp_gt, lg_cmp_lt, lg_cmp_eq, Bool.false_eq_true, Bool.true_eq_false, reduceCtorEq, false_iff, true_iff, iff_true, iff_false, and_true, true_and, and_false, false_and, reduceIte, ite_true, ite_false, eq_self] at *)) <;> omega) (fun s12 hs12 => ?_)
              have Fs12 : Fm [85] [194] σ s12 := by rw [hs12]; exact Fm.si Fs5 rfl
              have Vs12 : 0 ≤ (v11 : Int32).toInt ∧ (v11 : Int32).toInt ≤ 9999 := by ((try simp only [vp_in_iff, Int32.lt_iff_toInt_lt, Int32.le_iff_toInt_le, ← Int32.toInt_inj, Int32.reduceToInt, n_1, n_2, n_8, Int32.toNatClampNeg, Int64.lt_iff_toInt_lt, Int64.le_iff_toInt_le, ← Int64.toInt_inj, Int64.reduceToInt, Int32.toInt_toInt64, lg_cmp_ge, lg_cmp_le, lg_cmp_gt, lg_cmp_lt, lg_cmp_eq, Bool.false_eq_true, Bool.true_eq_false, reduceCtorEq, false_iff, true_iff, iff_true, iff_false, and_true, true_and, and_false, false_and, reduceIte, ite_true, ite_false, eq_self] at *)) <;> omega
              refine wa_lload_n (i := 3) rfl rfl ?_
              refine wa_ldc2 (v := (10000)) (allW_in (kT_16 _ (List.mem_of_getElem? (i := 11) rfl)) rfl) ?_
              refine wa_ldiv (by ((try simp only [vp_in_iff, Int32.lt_iff_toInt_lt, Int32.le_iff_toInt_le, ← Int32.toInt_inj, Int32.reduceToInt, n_1, n_2, n_8, Int32.toNatClampNeg, Int64.lt_iff_toInt_lt, Int64.le_iff_toInt_le, ← Int64.toInt_inj, Int64.reduceToInt, Int32.toInt_toInt64, lg_cmp_ge, lg_cmp_le, lg_cmp_gt, lg_cmp_lt, lg_cmp_eq, Bool.false_eq_true, Bool.true_eq_false, reduceCtorEq, false_iff, true_iff, iff_true, iff_false, and_true, true_and, and_false, false_and, reduceIte, ite_true, ite_false, eq_self] at *)) <;> omega) ?_
              refine wa_topl (fun v13 hv13 => ?_)
              first | (refine l_divK hv13 ?_ ?_ (fun tv13 => ?_); (((try simp only [vp_in_iff, Int32.lt_iff_toInt_lt, Int32.le_iff_toInt_le, ← Int32.toInt_inj, Int32.reduceToInt, n_1, n_2, n_8, Int32.toNatClampNeg, Int64.lt_iff_toInt_lt, Int64.le_iff_toInt_le, ← Int64.toInt_inj, Int64.reduceToInt, Int32.toInt_toInt64, lg_cmp_ge, lg_cmp_le, lg_cmp_gt, lg_cmp_lt, lg_cmp_eq, Bool.false_eq_true, Bool.true_eq_false, reduceCtorEq, false_iff, true_iff, iff_true, iff_false, and_true, true_and, and_false, false_and, reduceIte, ite_true, ite_false, eq_self] at *)) <;> omega); (((try simp only [vp_in_iff, Int32.lt_iff_toInt_lt, Int32.le_iff_toInt_le, ← Int32.toInt_inj, Int32.reduceToInt, n_1, n_2, n_8, Int32.toNatClampNeg, Int64.lt_iff_toInt_lt, Int64.le_iff_toInt_le, ← Int64.toInt_inj, Int64.reduceToInt, Int32.toInt_toInt64, lg_cmp_ge, lg_cmp_le, lg_cmp_gt, lg_cmp_lt, lg_cmp_eq, Bool.false_eq_true, Bool.true_eq_false, reduceCtorEq, false_iff, true_iff, iff_true, iff_false, and_true, true_and, and_false, false_and, reduceIte, ite_true, ite_false, eq_self] at *)) <;> omega)) | skip
              clear hv13
              refine wa_lstore_nD (lv' := [(3, .long v13), (0, .ref 84)]) (i := 3) rfl (by decide) rfl ?_
              refine wa_aload_n (i := 0) rfl rfl ?_
              refine wa_dup rfl ?_
              refine wa_geti ck_12 fl_12_1299 ly_84 ?_
              refine wa_rw (nxq_gi_si hs12 (by decide)) ?_
              refine wa_iconst (v := 1) (by decide) ?_
              refine wa_iadd ?_
              refine wa_top (fun v14 hv14 => ?_)
              first | (refine i_addK hv14 ?_ ?_ (fun tv14 => ?_); (((try simp only [vp_in_iff, Int32.lt_iff_toInt_lt, Int32.le_iff_toInt_le, ← Int32.toInt_inj, Int32.reduceToInt, n_1, n_2, n_8, Int32.toNatClampNeg, Int64.lt_iff_toInt_lt, Int64.le_iff_toInt_le, ← Int64.toInt_inj, Int64.reduceToInt, Int32.toInt_toInt64, lg_cmp_ge, lg_cmp_le, lg_cmp_gt, lg_cmp_lt, lg_cmp_eq, Bool.false_eq_true, Bool.true_eq_false, reduceCtorEq, false_iff, true_iff, iff_true, iff_false, and_true, true_and, and_false, false_and, reduceIte, ite_true, ite_false, eq_self] at *)) <;> omega); (((try simp only [vp_in_iff, Int32.lt_iff_toInt_lt, Int32.le_iff_toInt_le, ← Int32.toInt_inj, Int32.reduceToInt, n_1, n_2, n_8, Int32.toNatClampNeg, Int64.lt_iff_toInt_lt, Int64.le_iff_toInt_le, ← Int64.toInt_inj, Int64.reduceToInt, Int32.toInt_toInt64, lg_cmp_ge, lg_cmp_le, lg_cmp_gt, lg_cmp_lt, lg_cmp_eq, Bool.false_eq_true, Bool.true_eq_false, reduceCtorEq, false_iff, true_iff, iff_true, iff_false, and_true, true_and, and_false, false_and, reduceIte, ite_true, ite_false, eq_self] at *)) <;> omega)) | skip
              clear hv14
              refine wa_puti ck_12 fl_12_1299 ly_84 (fun s15 hs15 => ?_)
              have Fs15 : Fm [85] [194] σ s15 := by rw [hs15]; exact Fm.si Fs12 rfl
              refine wa_goto o_X12_times_55 (by decide) ?_
              refine wa_pick [1, 0] rfl ?_
              exact ih6 _ (by ((try simp only [vp_in_iff, Int32.lt_iff_toInt_lt, Int32.le_iff_toInt_le, ← Int32.toInt_inj, Int32.reduceToInt, n_1, n_2, n_8, Int32.toNatClampNeg, Int64.lt_iff_toInt_lt, Int64.le_iff_toInt_le, ← Int64.toInt_inj, Int64.reduceToInt, Int32.toInt_toInt64, lg_cmp_ge, lg_cmp_le, lg_cmp_gt, lg_cmp_lt, lg_cmp_eq, Bool.false_eq_true, Bool.true_eq_false, reduceCtorEq, false_iff, true_iff, iff_true, iff_false, and_true, true_and, and_false, false_and, reduceIte, ite_true, ite_false, eq_self] at *)) <;> omega) _ _ ⟨Fs15, (ar_ni hs15 (by decide) (ar_w hs12 Vs12 As5_85)), (by ((try simp only [vp_in_iff, Int32.lt_iff_toInt_lt, Int32.le_iff_toInt_le, ← Int32.toInt_inj, Int32.reduceToInt, n_1, n_2, n_8, Int32.toNatClampNeg, Int64.lt_iff_toInt_lt, Int64.le_iff_toInt_le, ← Int64.toInt_inj, Int64.reduceToInt, Int32.toInt_toInt64, lg_cmp_ge, lg_cmp_le, lg_cmp_gt, lg_cmp_lt, lg_cmp_eq, Bool.false_eq_true, Bool.true_eq_false, reduceCtorEq, false_iff, true_iff, iff_true, iff_false, and_true, true_and, and_false, false_and, reduceIte, ite_true, ite_false, eq_self] at *)) <;> omega), (by rw [nxe_gi_si hs15]; first | assumption | (((try simp only [vp_in_iff, Int32.lt_iff_toInt_lt, Int32.le_iff_toInt_le, ← Int32.toInt_inj, Int32.reduceToInt, n_1, n_2, n_8, Int32.toNatClampNeg, Int64.lt_iff_toInt_lt, Int64.le_iff_toInt_le, ← Int64.toInt_inj, Int64.reduceToInt, Int32.toInt_toInt64, lg_cmp_ge, lg_cmp_le, lg_cmp_gt, lg_cmp_lt, lg_cmp_eq, Bool.false_eq_true, Bool.true_eq_false, reduceCtorEq, false_iff, true_iff, iff_true, iff_false, and_true, true_and, and_false, false_and, reduceIte, ite_true, ite_false, eq_self] at *)) <;> omega)), trivial⟩ rfl
        exact hi7 _ _ _ ⟨Fs1, As1_85, (by ((try simp only [vp_in_iff, Int32.lt_iff_toInt_lt, Int32.le_iff_toInt_le, ← Int32.toInt_inj, Int32.reduceToInt, n_1, n_2, n_8, Int32.toNatClampNeg, Int64.lt_iff_toInt_lt, Int64.le_iff_toInt_le, ← Int64.toInt_inj, Int64.reduceToInt, Int32.toInt_toInt64, lg_cmp_ge, lg_cmp_le, lg_cmp_gt, lg_cmp_lt, lg_cmp_eq, Bool.false_eq_true, Bool.true_eq_false, reduceCtorEq, false_iff, true_iff, iff_true, iff_false, and_true, true_and, and_false, false_and, reduceIte, ite_true, ite_false, eq_self] at *)) <;> omega), (by rw [khi3_0]; first | assumption | (((try simp only [vp_in_iff, Int32.lt_iff_toInt_lt, Int32.le_iff_toInt_le, ← Int32.toInt_inj, Int32.reduceToInt, n_1, n_2, n_8, Int32.toNatClampNeg, Int64.lt_iff_toInt_lt, Int64.le_iff_toInt_le, ← Int64.toInt_inj, Int64.reduceToInt, Int32.toInt_toInt64, lg_cmp_ge, lg_cmp_le, lg_cmp_gt, lg_cmp_lt, lg_cmp_eq, Bool.false_eq_true, Bool.true_eq_false, reduceCtorEq, false_iff, true_iff, iff_true, iff_false, and_true, true_and, and_false, false_and, reduceIte, ite_true, ite_false, eq_self] at *)) <;> omega)), trivial⟩ rfl
      · have mh4 := nle_mx h4
        refine wa_aload_n (i := 0) rfl rfl ?_
        refine wa_getr ck_12 fl_12_456 ly_84 rf_84_193 ?_
        refine wa_iload rfl ?_
        refine wa_iald ly_85 (by ((try simp only [vp_in_iff, Int32.lt_iff_toInt_lt, Int32.le_iff_toInt_le, ← Int32.toInt_inj, Int32.reduceToInt, n_1, n_2, n_8, Int32.toNatClampNeg, Int64.lt_iff_toInt_lt, Int64.le_iff_toInt_le, ← Int64.toInt_inj, Int64.reduceToInt, Int32.toInt_toInt64, lg_cmp_ge, lg_cmp_le, lg_cmp_gt, lg_cmp_lt, lg_cmp_eq, Bool.false_eq_true, Bool.true_eq_false, reduceCtorEq, false_iff, true_iff, iff_true, iff_false, and_true, true_and, and_false, false_and, reduceIte, ite_true, ite_false, eq_self] at *)) <;> omega) ?_
        refine wa_top (fun v16 hv16 => ?_)
        have rv16 : 0 ≤ v16.toInt ∧ v16.toInt ≤ 9999 := by rw [← hv16]; exact ar_at As1_85 _
        have mv16 : 0 ≤ v16.toInt * a0.toInt ∧ v16.toInt * a0.toInt ≤ 9999 * a0.toInt := mul_bd rv16.1 rv16.2 p1.1
        clear hv16
        refine wa_i2l ?_
        refine wa_lload_n (i := 1) rfl rfl ?_
        refine wa_lmul ?_
        refine wa_topl (fun v17 hv17 => ?_)
        first | (refine l_mulK hv17 ?_ ?_ (fun tv17 => ?_); (((try simp only [vp_in_iff, Int32.lt_iff_toInt_lt, Int32.le_iff_toInt_le, ← Int32.toInt_inj, Int32.reduceToInt, n_1, n_2, n_8, Int32.toNatClampNeg, Int64.lt_iff_toInt_lt, Int64.le_iff_toInt_le, ← Int64.toInt_inj, Int64.reduceToInt, Int32.toInt_toInt64, lg_cmp_ge, lg_cmp_le, lg_cmp_gt, lg_cmp_lt, lg_cmp_eq, Bool.false_eq_true, Bool.true_eq_false, reduceCtorEq, false_iff, true_iff, iff_true, iff_false, and_true, true_and, and_false, false_and, reduceIte, ite_true, ite_false, eq_self] at *)) <;> omega); (((try simp only [vp_in_iff, Int32.lt_iff_toInt_lt, Int32.le_iff_toInt_le, ← Int32.toInt_inj, Int32.reduceToInt, n_1, n_2, n_8, Int32.toNatClampNeg, Int64.lt_iff_toInt_lt, Int64.le_iff_toInt_le, ← Int64.toInt_inj, Int64.reduceToInt, Int32.toInt_toInt64, lg_cmp_ge, lg_cmp_le, lg_cmp_gt, lg_cmp_lt, lg_cmp_eq, Bool.false_eq_true, Bool.true_eq_false, reduceCtorEq, false_iff, true_iff, iff_true, iff_false, and_true, true_and, and_false, false_and, reduceIte, ite_true, ite_false, eq_self] at *)) <;> omega)) | skip
        clear hv17
        refine wa_lload_n (i := 3) rfl rfl ?_
        refine wa_ladd ?_
        refine wa_topl (fun v18 hv18 => ?_)
        first | (refine l_addK hv18 ?_ ?_ (fun tv18 => ?_); (((try simp only [vp_in_iff, Int32.lt_iff_toInt_lt, Int32.le_iff_toInt_le, ← Int32.toInt_inj, Int32.reduceToInt, n_1, n_2, n_8, Int32.toNatClampNeg, Int64.lt_iff_toInt_lt, Int64.le_iff_toInt_le, ← Int64.toInt_inj, Int64.reduceToInt, Int32.toInt_toInt64, lg_cmp_ge, lg_cmp_le, lg_cmp_gt, lg_cmp_lt, lg_cmp_eq, Bool.false_eq_true, Bool.true_eq_false, reduceCtorEq, false_iff, true_iff, iff_true, iff_false, and_true, true_and, and_false, false_and, reduceIte, ite_true, ite_false, eq_self] at *)) <;> omega); (((try simp only [vp_in_iff, Int32.lt_iff_toInt_lt, Int32.le_iff_toInt_le, ← Int32.toInt_inj, Int32.reduceToInt, n_1, n_2, n_8, Int32.toNatClampNeg, Int64.lt_iff_toInt_lt, Int64.le_iff_toInt_le, ← Int64.toInt_inj, Int64.reduceToInt, Int32.toInt_toInt64, lg_cmp_ge, lg_cmp_le, lg_cmp_gt, lg_cmp_lt, lg_cmp_eq, Bool.false_eq_true, Bool.true_eq_false, reduceCtorEq, false_iff, true_iff, iff_true, iff_false, and_true, true_and, and_false, false_and, reduceIte, ite_true, ite_false, eq_self] at *)) <;> omega)) | skip
        clear hv18
        refine wa_lstoreD (lv' := [(6, .long v18), (0, .ref 84), (1, .long a0), (3, .long l3), (5, .int l5)]) (by decide) rfl ?_
        refine wa_aload_n (i := 0) rfl rfl ?_
        refine wa_getr ck_12 fl_12_456 ly_84 rf_84_193 ?_
        refine wa_iload rfl ?_
        refine wa_lload rfl ?_
        refine wa_ldc2 (v := (10000)) (allW_in (kT_16 _ (List.mem_of_getElem? (i := 11) rfl)) rfl) ?_
        refine wa_lrem (by ((try simp only [vp_in_iff, Int32.lt_iff_toInt_lt, Int32.le_iff_toInt_le, ← Int32.toInt_inj, Int32.reduceToInt, n_1, n_2, n_8, Int32.toNatClampNeg, Int64.lt_iff_toInt_lt, Int64.le_iff_toInt_le, ← Int64.toInt_inj, Int64.reduceToInt, Int32.toInt_toInt64, lg_cmp_ge, lg_cmp_le, lg_cmp_gt, lg_cmp_lt, lg_cmp_eq, Bool.false_eq_true, Bool.true_eq_false, reduceCtorEq, false_iff, true_iff, iff_true, iff_false, and_true, true_and, and_false, false_and, reduceIte, ite_true, ite_false, eq_self] at *)) <;> omega) ?_
        refine wa_topl (fun v19 hv19 => ?_)
        first | (refine l_remK hv19 ?_ ?_ (fun tv19 => ?_); (((try simp only [vp_in_iff, Int32.lt_iff_toInt_lt, Int32.le_iff_toInt_le, ← Int32.toInt_inj, Int32.reduceToInt, n_1, n_2, n_8, Int32.toNatClampNeg, Int64.lt_iff_toInt_lt, Int64.le_iff_toInt_le, ← Int64.toInt_inj, Int64.reduceToInt, Int32.toInt_toInt64, lg_cmp_ge, lg_cmp_le, lg_cmp_gt, lg_cmp_lt, lg_cmp_eq, Bool.false_eq_true, Bool.true_eq_false, reduceCtorEq, false_iff, true_iff, iff_true, iff_false, and_true, true_and, and_false, false_and, reduceIte, ite_true, ite_false, eq_self] at *)) <;> omega); (((try simp only [vp_in_iff, Int32.lt_iff_toInt_lt, Int32.le_iff_toInt_le, ← Int32.toInt_inj, Int32.reduceToInt, n_1, n_2, n_8, Int32.toNatClampNeg, Int64.lt_iff_toInt_lt, Int64.le_iff_toInt_le, ← Int64.toInt_inj, Int64.reduceToInt, Int32.toInt_toInt64, lg_cmp_ge, lg_cmp_le, lg_cmp_gt, lg_cmp_lt, lg_cmp_eq, Bool.false_eq_true, Bool.true_eq_false, reduceCtorEq, false_iff, true_iff, iff_true, iff_false, and_true, true_and, and_false, false_and, reduceIte, ite_true, ite_false, eq_self] at *)) <;> omega)) | (refine l_remK2 hv19 ?_ (fun tv19 => ?_); (((try simp only [vp_in_iff, Int32.lt_iff_toInt_lt, Int32.le_iff_toInt_le, ← Int32.toInt_inj, Int32.reduceToInt, n_1, n_2, n_8, Int32.toNatClampNeg, Int64.lt_iff_toInt_lt, Int64.le_iff_toInt_le, ← Int64.toInt_inj, Int64.reduceToInt, Int32.toInt_toInt64, lg_cmp_ge, lg_cmp_le, lg_cmp_gt, lg_cmp_lt, lg_cmp_eq, Bool.false_eq_true, Bool.true_eq_false, reduceCtorEq, false_iff, true_iff, iff_true, iff_false, and_true, true_and, and_false, false_and, reduceIte, ite_true, ite_false, eq_self] at *)) <;> omega)) | skip
        clear hv19
        refine wa_l2i ?_
        refine wa_top (fun v20 hv20 => ?_)
        first | (refine i_l2iK hv20 ?_ ?_ (fun tv20 => ?_); (((try simp only [vp_in_iff, Int32.lt_iff_toInt_lt, Int32.le_iff_toInt_le, ← Int32.toInt_inj, Int32.reduceToInt, n_1, n_2, n_8, Int32.toNatClampNeg, Int64.lt_iff_toInt_lt, Int64.le_iff_toInt_le, ← Int64.toInt_inj, Int64.reduceToInt, Int32.toInt_toInt64, lg_cmp_ge, lg_cmp_le, lg_cmp_gt, lg_cmp_lt, lg_cmp_eq, Bool.false_eq_true, Bool.true_eq_false, reduceCtorEq, false_iff, true_iff, iff_true, iff_false, and_true, true_and, and_false, false_and, reduceIte, ite_true, ite_false, eq_self] at *)) <;> omega); (((try simp only [vp_in_iff, Int32.lt_iff_toInt_lt, Int32.le_iff_toInt_le, ← Int32.toInt_inj, Int32.reduceToInt, n_1, n_2, n_8, Int32.toNatClampNeg, Int64.lt_iff_toInt_lt, Int64.le_iff_toInt_le, ← Int64.toInt_inj, Int64.reduceToInt, Int32.toInt_toInt64, lg_cmp_ge, lg_cmp_le, lg_cmp_gt, lg_cmp_lt, lg_cmp_eq, Bool.false_eq_true, Bool.true_eq_false, reduceCtorEq, false_iff, true_iff, iff_true, iff_false, and_true, true_and, and_false, false_and, reduceIte, ite_true, ite_false, eq_self] at *)) <;> omega)) | skip
        clear hv20
        refine wa_iast ly_85 (by ((try simp only [vp_in_iff, Int32.lt_iff_toInt_lt, Int32.le_iff_toInt_le, ← Int32.toInt_inj, Int32.reduceToInt, n_1, n_2, n_8, Int32.toNatClampNeg, Int64.lt_iff_toInt_lt, Int64.le_iff_toInt_le, ← Int64.toInt_inj, Int64.reduceToInt, Int32.toInt_toInt64, lg_cmp_ge, lg_cmp_le, lg_cmp_gt, lg_cmp_lt, lg_cmp_eq, Bool.false_eq_true, Bool.true_eq_false, reduceCtorEq, false_iff, true_iff, iff_true, iff_false, and_true, true_and, and_false, false_and, reduceIte, ite_true, ite_false, eq_self] at *)) <;> omega) (fun s21 hs21 => ?_)
        have Fs21 : Fm [85] [194] σ s21 := by rw [hs21]; exact Fm.si Fs1 rfl
        have Vs21 : 0 ≤ (v20 : Int32).toInt ∧ (v20 : Int32).toInt ≤ 9999 := by ((try simp only [vp_in_iff, Int32.lt_iff_toInt_lt, Int32.le_iff_toInt_le, ← Int32.toInt_inj, Int32.reduceToInt, n_1, n_2, n_8, Int32.toNatClampNeg, Int64.lt_iff_toInt_lt, Int64.le_iff_toInt_le, ← Int64.toInt_inj, Int64.reduceToInt, Int32.toInt_toInt64, lg_cmp_ge, lg_cmp_le, lg_cmp_gt, lg_cmp_lt, lg_cmp_eq, Bool.false_eq_true, Bool.true_eq_false, reduceCtorEq, false_iff, true_iff, iff_true, iff_false, and_true, true_and, and_false, false_and, reduceIte, ite_true, ite_false, eq_self] at *)) <;> omega
        refine wa_lload rfl ?_
        refine wa_ldc2 (v := (10000)) (allW_in (kT_16 _ (List.mem_of_getElem? (i := 11) rfl)) rfl) ?_
        refine wa_ldiv (by ((try simp only [vp_in_iff, Int32.lt_iff_toInt_lt, Int32.le_iff_toInt_le, ← Int32.toInt_inj, Int32.reduceToInt, n_1, n_2, n_8, Int32.toNatClampNeg, Int64.lt_iff_toInt_lt, Int64.le_iff_toInt_le, ← Int64.toInt_inj, Int64.reduceToInt, Int32.toInt_toInt64, lg_cmp_ge, lg_cmp_le, lg_cmp_gt, lg_cmp_lt, lg_cmp_eq, Bool.false_eq_true, Bool.true_eq_false, reduceCtorEq, false_iff, true_iff, iff_true, iff_false, and_true, true_and, and_false, false_and, reduceIte, ite_true, ite_false, eq_self] at *)) <;> omega) ?_
        refine wa_topl (fun v22 hv22 => ?_)
        first | (refine l_divK hv22 ?_ ?_ (fun tv22 => ?_); (((try simp only [vp_in_iff, Int32.lt_iff_toInt_lt, Int32.le_iff_toInt_le, ← Int32.toInt_inj, Int32.reduceToInt, n_1, n_2, n_8, Int32.toNatClampNeg, Int64.lt_iff_toInt_lt, Int64.le_iff_toInt_le, ← Int64.toInt_inj, Int64.reduceToInt, Int32.toInt_toInt64, lg_cmp_ge, lg_cmp_le, lg_cmp_gt, lg_cmp_lt, lg_cmp_eq, Bool.false_eq_true, Bool.true_eq_false, reduceCtorEq, false_iff, true_iff, iff_true, iff_false, and_true, true_and, and_false, false_and, reduceIte, ite_true, ite_false, eq_self] at *)) <;> omega); (((try simp only [vp_in_iff, Int32.lt_iff_toInt_lt, Int32.le_iff_toInt_le, ← Int32.toInt_inj, Int32.reduceToInt, n_1, n_2, n_8, Int32.toNatClampNeg, Int64.lt_iff_toInt_lt, Int64.le_iff_toInt_le, ← Int64.toInt_inj, Int64.reduceToInt, Int32.toInt_toInt64, lg_cmp_ge, lg_cmp_le, lg_cmp_gt, lg_cmp_lt, lg_cmp_eq, Bool.false_eq_true, Bool.true_eq_false, reduceCtorEq, false_iff, true_iff, iff_true, iff_false, and_true, true_and, and_false, false_and, reduceIte, ite_true, ite_false, eq_self] at *)) <;> omega)) | skip
        clear hv22
        refine wa_lstore_nD (lv' := [(3, .long v22), (6, .long v18), (0, .ref 84), (1, .long a0), (5, .int l5)]) (i := 3) rfl (by decide) rfl ?_
        refine wa_iinc (v := (1)) (lv' := fun y23 => [(5, .int y23), (3, .long v22), (6, .long v18), (0, .ref 84), (1, .long a0)]) (by decide) rfl (by decide) (fun _ => rfl) (fun y23 hy23 => ?_)
        replace hy23 := hy23.symm
        first | (refine i_addK hy23 ?_ ?_ (fun ty23 => ?_); (((try simp only [vp_in_iff, Int32.lt_iff_toInt_lt, Int32.le_iff_toInt_le, ← Int32.toInt_inj, Int32.reduceToInt, n_1, n_2, n_8, Int32.toNatClampNeg, Int64.lt_iff_toInt_lt, Int64.le_iff_toInt_le, ← Int64.toInt_inj, Int64.reduceToInt, Int32.toInt_toInt64, lg_cmp_ge, lg_cmp_le, lg_cmp_gt, lg_cmp_lt, lg_cmp_eq, Bool.false_eq_true, Bool.true_eq_false, reduceCtorEq, false_iff, true_iff, iff_true, iff_false, and_true, true_and, and_false, false_and, reduceIte, ite_true, ite_false, eq_self] at *)) <;> omega); (((try simp only [vp_in_iff, Int32.lt_iff_toInt_lt, Int32.le_iff_toInt_le, ← Int32.toInt_inj, Int32.reduceToInt, n_1, n_2, n_8, Int32.toNatClampNeg, Int64.lt_iff_toInt_lt, Int64.le_iff_toInt_le, ← Int64.toInt_inj, Int64.reduceToInt, Int32.toInt_toInt64, lg_cmp_ge, lg_cmp_le, lg_cmp_gt, lg_cmp_lt, lg_cmp_eq, Bool.false_eq_true, Bool.true_eq_false, reduceCtorEq, false_iff, true_iff, iff_true, iff_false, and_true, true_and, and_false, false_and, reduceIte, ite_true, ite_false, eq_self] at *)) <;> omega)) | skip
        clear hy23
        refine wa_goto o_X12_times_5 (by decide) ?_
        refine wa_pick [3, 4, 1, 0] rfl ?_
        exact ih2 _ (by ((try simp only [vp_in_iff, Int32.lt_iff_toInt_lt, Int32.le_iff_toInt_le, ← Int32.toInt_inj, Int32.reduceToInt, n_1, n_2, n_8, Int32.toNatClampNeg, Int64.lt_iff_toInt_lt, Int64.le_iff_toInt_le, ← Int64.toInt_inj, Int64.reduceToInt, Int32.toInt_toInt64, lg_cmp_ge, lg_cmp_le, lg_cmp_gt, lg_cmp_lt, lg_cmp_eq, Bool.false_eq_true, Bool.true_eq_false, reduceCtorEq, false_iff, true_iff, iff_true, iff_false, and_true, true_and, and_false, false_and, reduceIte, ite_true, ite_false, eq_self] at *)) <;> omega) _ _ _ ⟨Fs21, ((nxq_gi_si hs21 (by decide)).trans (khi3_0)), (ar_w hs21 Vs21 As1_85), (by ((try simp only [vp_in_iff, Int32.lt_iff_toInt_lt, Int32.le_iff_toInt_le, ← Int32.toInt_inj, Int32.reduceToInt, n_1, n_2, n_8, Int32.toNatClampNeg, Int64.lt_iff_toInt_lt, Int64.le_iff_toInt_le, ← Int64.toInt_inj, Int64.reduceToInt, Int32.toInt_toInt64, lg_cmp_ge, lg_cmp_le, lg_cmp_gt, lg_cmp_lt, lg_cmp_eq, Bool.false_eq_true, Bool.true_eq_false, reduceCtorEq, false_iff, true_iff, iff_true, iff_false, and_true, true_and, and_false, false_and, reduceIte, ite_true, ite_false, eq_self] at *)) <;> omega), (by ((try simp only [vp_in_iff, Int32.lt_iff_toInt_lt, Int32.le_iff_toInt_le, ← Int32.toInt_inj, Int32.reduceToInt, n_1, n_2, n_8, Int32.toNatClampNeg, Int64.lt_iff_toInt_lt, Int64.le_iff_toInt_le, ← Int64.toInt_inj, Int64.reduceToInt, Int32.toInt_toInt64, lg_cmp_ge, lg_cmp_le, lg_cmp_gt, lg_cmp_lt, lg_cmp_eq, Bool.false_eq_true, Bool.true_eq_false, reduceCtorEq, false_iff, true_iff, iff_true, iff_false, and_true, true_and, and_false, false_and, reduceIte, ite_true, ite_false, eq_self] at *)) <;> omega), trivial⟩ rfl
  exact hi3 _ _ _ _ ⟨(Fm.rf [85] [194] σ), (rfl), A_85, (by ((try simp only [vp_in_iff, Int32.lt_iff_toInt_lt, Int32.le_iff_toInt_le, ← Int32.toInt_inj, Int32.reduceToInt, n_1, n_2, n_8, Int32.toNatClampNeg, Int64.lt_iff_toInt_lt, Int64.le_iff_toInt_le, ← Int64.toInt_inj, Int64.reduceToInt, Int32.toInt_toInt64, lg_cmp_ge, lg_cmp_le, lg_cmp_gt, lg_cmp_lt, lg_cmp_eq, Bool.false_eq_true, Bool.true_eq_false, reduceCtorEq, false_iff, true_iff, iff_true, iff_false, and_true, true_and, and_false, false_and, reduceIte, ite_true, ite_false, eq_self] at *)) <;> omega), (by ((try simp only [vp_in_iff, Int32.lt_iff_toInt_lt, Int32.le_iff_toInt_le, ← Int32.toInt_inj, Int32.reduceToInt, n_1, n_2, n_8, Int32.toNatClampNeg, Int64.lt_iff_toInt_lt, Int64.le_iff_toInt_le, ← Int64.toInt_inj, Int64.reduceToInt, Int32.toInt_toInt64, lg_cmp_ge, lg_cmp_le, lg_cmp_gt, lg_cmp_lt, lg_cmp_eq, Bool.false_eq_true, Bool.true_eq_false, reduceCtorEq, false_iff, true_iff, iff_true, iff_false, and_true, true_and, and_false, false_and, reduceIte, ite_true, ite_false, eq_self] at *)) <;> omega), trivial⟩ rfl
set_option maxHeartbeats 4000000 in
theorem sp_X12_bound (G : kG9) {d : Nat} (hd : 3 ≤ d) (σ : St) (a0 : Int32) (r1 : 0 ≤ (gi σ 84 33).toInt ∧ (gi σ 84 33).toInt ≤ 24) (r2 : 0 ≤ (gi σ 84 32).toInt ∧ (gi σ 84 32).toInt ≤ 4) (A_85 : AR ap_85 σ 85) (A_135 : AR ap_135 σ 135) (A_136 : AR ap_136 σ 136) (A_137 : AR ap_137 σ 137) (A_156 : AR ap_156 σ 156) (A_157 : AR ap_157 σ 157) (A_158 : AR ap_158 σ 158) (A_159 : AR ap_159 σ 159) (P_AOK : AOK σ) (P_WOK : WOK σ) : Ct G M_X12_bound d [.ref 84, .int a0] σ (fun r σ' => ∃ x : Int32, r = some (.int x) ∧ Fm [85, 133, 135, 136, 137] [0, 119, 194] σ σ' ∧ AR ap_85 σ' 85 ∧ AR ap_135 σ' 135 ∧ AR ap_136 σ' 136 ∧ AR ap_137 σ' 137 ∧ WOK σ' ∧ True) := by
  refine wa_start (by decide) rfl (Nat.le_of_ble_eq_true rfl) (lv := [(0, .ref 84), (1, .int a0)]) rfl o_X12_bound_0 rfl ?_
  have ua0 := Int32.toInt_lt a0
  have wa0 := Int32.le_toInt a0
  refine wa_aload_n (i := 0) rfl rfl ?_
  refine wa_Vi (d9 := d - 1) [] [] (sp_X12_asks G (d := d - 1) (by omega) σ ) (rfl) rfl rfl (zr (by omega)) mk_X12_asks ly_84 ml_12_871 (Nat.le_of_ble_eq_true rfl) (fun x2 s1 hs1 => ?_)
  obtain ⟨bx2, ex2, fs1, -⟩ := pB hs1
  subst ex2
  have Fs1 : Fm [85, 133, 135, 136, 137] [0, 119, 194] σ s1 := Fm.tr (Fm.rf [85, 133, 135, 136, 137] [0, 119, 194] σ) (Fm.wd fs1 rfl rfl)
  refine wa_if_ne o_X12_bound_10 (by decide) (fun h3 => ?_) (fun h3 => ?_)
  · replace h3 := bI_t (b := bx2) (rfl) h3
    refine wa_aload_n (i := 0) rfl rfl ?_
    refine wa_Vv (d9 := d - 1) [] [] (sp_X12_putOn G (d := d - 1) (by omega) s1  (by rw [Fm.gi fs1 (q := 84) (k := 33) rfl rfl]; first | assumption | exact Or.inl rfl | exact Or.inr rfl | (((try simp only [vp_in_iff, Int32.lt_iff_toInt_lt, Int32.le_iff_toInt_le, ← Int32.toInt_inj, Int32.reduceToInt, n_1, n_2, n_8, Int32.toNatClampNeg, Int64.lt_iff_toInt_lt, Int64.le_iff_toInt_le, ← Int64.toInt_inj, Int64.reduceToInt, Int32.toInt_toInt64, lg_cmp_ge, lg_cmp_le, lg_cmp_gt, lg_cmp_lt, lg_cmp_eq, Bool.false_eq_true, Bool.true_eq_false, reduceCtorEq, false_iff, true_iff, iff_true, iff_false, and_true, true_and, and_false, false_and, reduceIte, ite_true, ite_false, eq_self] at *)) <;> omega)) (ar_fm fs1 rfl rfl A_135) (ar_fm fs1 rfl rfl A_136) (ar_fm fs1 rfl rfl A_137) (ar_fm fs1 rfl rfl A_156) (ar_fm fs1 rfl rfl A_157) (ar_fm fs1 rfl rfl A_158) (ar_fm fs1 rfl rfl A_159) (AOK_of (fun k => Fm.gi fs1 (q := 157) (k := k) rfl rfl) (fun k => Fm.gi fs1 (q := 158) (k := k) rfl rfl) P_AOK) (WOK_of (fun k => Fm.gi fs1 (q := 135) (k := k) rfl rfl) (fun k => Fm.gi fs1 (q := 136) (k := k) rfl rfl) P_WOK)) (rfl) rfl rfl (zr (by omega)) mk_X12_putOn ly_84 ml_12_982 (Nat.le_of_ble_eq_true rfl) (fun s4 hs4 => ?_)
    obtain ⟨fs4, cx5_1, As4_135, As4_136, As4_137, Ps4_WOK, Ps4_INW, -⟩ := hs4
    have Fs4 : Fm [85, 133, 135, 136, 137] [0, 119, 194] σ s4 := Fm.tr Fs1 (Fm.wd fs4 rfl rfl)
    refine wa_lconst (v := 0) (by decide) ?_
    refine wa_lstore_nD (lv' := [(2, .long 0), (0, .ref 84), (1, .int a0)]) (i := 2) rfl (by decide) rfl ?_
    refine wa_lconst (v := 1) (by decide) ?_
    refine wa_lstoreD (lv' := [(4, .long 1), (2, .long 0), (0, .ref 84), (1, .int a0)]) (by decide) rfl ?_
    refine wa_iconst (v := 0) (by decide) ?_
    refine wa_istoreD (lv' := [(6, .int 0), (4, .long 1), (2, .long 0), (0, .ref 84), (1, .int a0)]) (by decide) rfl ?_
    refine wa_pick [3, 4, 2, 1, 0] rfl ?_
    have hi8 : ∀ (n9_22 : Nat) (l2 : Int64) (l4 : Int64) (l6 : Int32) (s6 : St), ((Fm [85, 133, 135, 136, 137] [0, 119, 194] σ s6) ∧ (gi s6 84 33 = gi σ 84 33) ∧ (gi s6 84 32 = gi σ 84 32) ∧ (gi s6 84 119 = gi s4 84 119) ∧ (gi s6 84 194 = gi σ 84 194) ∧ (AR ap_85 s6 85) ∧ (AR ap_135 s6 135) ∧ (AR ap_136 s6 136) ∧ (AR ap_137 s6 137) ∧ (WOK s6) ∧ (0 ≤ l6.toInt) ∧ (l6.toInt ≤ (gi s6 84 119).toInt) ∧ (0 ≤ l2.toInt ∧ l2.toInt ≤ l6.toInt) ∧ (1 ≤ l4.toInt ∧ l4.toInt ≤ 99999) ∧ (True)) → (2147483647 - l6.toInt).toNat = n9_22 → WA G M_X12_bound (ZM G M_X12_bound d (fun r σ' => ∃ x : Int32, r = some (.int x) ∧ Fm [85, 133, 135, 136, 137] [0, 119, 194] σ σ' ∧ AR ap_85 σ' 85 ∧ AR ap_135 σ' 135 ∧ AR ap_136 σ' 136 ∧ AR ap_137 σ' 137 ∧ WOK σ' ∧ True)) B_X12_bound_22 [(0, .ref 84), (1, .int a0), (2, .long l2), (4, .long l4), (6, .int l6)] [] s6 := by
      intro n9_22
      induction n9_22 using Nat.strongRecOn with
      | _ n9_22 ih7 =>
        intro l2 l4 l6 s6 i9 m9_22
        obtain ⟨Fs6, khi8_0, khi8_1, khi8_2, khi8_3, As6_85, As6_135, As6_136, As6_137, Ps6_WOK, jhi8_0, jhi8_1, jhi8_2, jhi8_3, -⟩ := i9
        have ul6 := Int32.toInt_lt l6
        have wl6 := Int32.le_toInt l6
        refine wa_iload rfl ?_
        refine wa_aload_n (i := 0) rfl rfl ?_
        refine wa_geti ck_12 fl_12_928 ly_84 ?_
        refine wa_rw (khi8_2) ?_
        refine wa_icmp_ge o_X12_bound_157 (by decide) (fun h9 => ?_) (fun h9 => ?_)
        · refine wa_lload_n (i := 2) rfl rfl ?_
          refine wa_lconst (v := 0) (by decide) ?_
          refine wa_lcmp ?_
          refine wa_top (fun v10 hv10 => ?_)
          have tv10 := i_cmpT hv10
          clear hv10
          refine wa_if_eq o_X12_bound_174 (by decide) (fun h11 => ?_) (fun h11 => ?_)
          · refine wa_iconst (v := 0) (by decide) ?_
            refine wa_ireturn rfl rfl ?_
            exact ⟨_, rfl, Fs6, As6_85, As6_135, As6_136, As6_137, Ps6_WOK, trivial⟩
          · refine wa_aload_n (i := 0) rfl rfl ?_
            refine wa_geti ck_12 fl_12_815 ly_84 ?_
            refine wa_rw (khi8_1) ?_
            refine wa_if_eq o_X12_bound_174 (by decide) (fun h12 => ?_) (fun h12 => ?_)
            · refine wa_iconst (v := 0) (by decide) ?_
              refine wa_ireturn rfl rfl ?_
              exact ⟨_, rfl, Fs6, As6_85, As6_135, As6_136, As6_137, Ps6_WOK, trivial⟩
            · refine wa_iload_n (i := 1) rfl rfl ?_
              refine wa_if_ge o_X12_bound_176 (by decide) (fun h13 => ?_) (fun h13 => ?_)
              · refine wa_aload_n (i := 0) rfl rfl ?_
                refine wa_getr ck_12 fl_12_456 ly_84 rf_84_193 ?_
                refine wa_iconst (v := 0) (by decide) ?_
                refine wa_aload_n (i := 0) rfl rfl ?_
                refine wa_geti ck_12 fl_12_815 ly_84 ?_
                refine wa_rw (khi8_1) ?_
                refine wa_iast ly_85 (by ((try simp only [vp_in_iff, Int32.lt_iff_toInt_lt, Int32.le_iff_toInt_le, ← Int32.toInt_inj, Int32.reduceToInt, n_1, n_2, n_8, Int32.toNatClampNeg, Int64.lt_iff_toInt_lt, Int64.le_iff_toInt_le, ← Int64.toInt_inj, Int64.reduceToInt, Int32.toInt_toInt64, lg_cmp_ge, lg_cmp_le, lg_cmp_gt, lg_cmp_lt, lg_cmp_eq, Bool.false_eq_true, Bool.true_eq_false, reduceCtorEq, false_iff, true_iff, iff_true, iff_false, and_true, true_and, and_false, false_and, reduceIte, ite_true, ite_false, eq_self] at *)) <;> omega) (fun s14 hs14 => ?_)
                have Fs14 : Fm [85, 133, 135, 136, 137] [0, 119, 194] σ s14 := by rw [hs14]; exact Fm.si Fs6 rfl
                have Vs14 : 0 ≤ ((gi σ 84 32) : Int32).toInt ∧ ((gi σ 84 32) : Int32).toInt ≤ 9999 := by ((try simp only [vp_in_iff, Int32.lt_iff_toInt_lt, Int32.le_iff_toInt_le, ← Int32.toInt_inj, Int32.reduceToInt, n_1, n_2, n_8, Int32.toNatClampNeg, Int64.lt_iff_toInt_lt, Int64.le_iff_toInt_le, ← Int64.toInt_inj, Int64.reduceToInt, Int32.toInt_toInt64, lg_cmp_ge, lg_cmp_le, lg_cmp_gt, lg_cmp_lt, lg_cmp_eq, Bool.false_eq_true, Bool.true_eq_false, reduceCtorEq, false_iff, true_iff, iff_true, iff_false, and_true, true_and, and_false, false_and, reduceIte, ite_true, ite_false, eq_self] at *)) <;> omega
                refine wa_aload_n (i := 0) rfl rfl ?_
                refine wa_iconst (v := 1) (by decide) ?_
                refine wa_puti ck_12 fl_12_1299 ly_84 (fun s15 hs15 => ?_)
                have Fs15 : Fm [85, 133, 135, 136, 137] [0, 119, 194] σ s15 := by rw [hs15]; exact Fm.si Fs14 rfl
                refine wa_lconst (v := 0) (by decide) ?_
                refine wa_lstoreD (lv' := [(6, .long 0), (0, .ref 84), (1, .int a0), (2, .long l2), (4, .long l4)]) (by decide) rfl ?_
                refine wa_pick [1, 2, 3, 4, 0] rfl ?_
                have hi18 : ∀ (n9_194 : Nat) (l6 : Int64) (s16 : St), ((Fm [85, 133, 135, 136, 137] [0, 119, 194] σ s16) ∧ (gi s16 84 33 = gi σ 84 33) ∧ (gi s16 84 32 = gi σ 84 32) ∧ (gi s16 84 119 = gi s4 84 119) ∧ (AR ap_85 s16 85) ∧ (AR ap_135 s16 135) ∧ (AR ap_136 s16 136) ∧ (AR ap_137 s16 137) ∧ (WOK s16) ∧ (0 ≤ l6.toInt ∧ l6.toInt ≤ 1200) ∧ (1 ≤ (gi s16 84 194).toInt ∧ (gi s16 84 194).toInt ≤ 1 + 2 * l6.toInt) ∧ (True)) → (1300 - l6.toInt).toNat = n9_194 → WA G M_X12_bound (ZM G M_X12_bound d (fun r σ' => ∃ x : Int32, r = some (.int x) ∧ Fm [85, 133, 135, 136, 137] [0, 119, 194] σ σ' ∧ AR ap_85 σ' 85 ∧ AR ap_135 σ' 135 ∧ AR ap_136 σ' 136 ∧ AR ap_137 σ' 137 ∧ WOK σ' ∧ True)) B_X12_bound_194 [(0, .ref 84), (1, .int a0), (2, .long l2), (4, .long l4), (6, .long l6)] [] s16 := by
                  intro n9_194
                  induction n9_194 using Nat.strongRecOn with
                  | _ n9_194 ih17 =>
                    intro l6 s16 i9 m9_194
                    obtain ⟨Fs16, khi18_0, khi18_1, khi18_2, As16_85, As16_135, As16_136, As16_137, Ps16_WOK, jhi18_0, jhi18_1, -⟩ := i9
                    refine wa_lload rfl ?_
                    refine wa_ldc2 (v := (2)) (allW_in (kT_13 _ (List.mem_of_getElem? (i := 18) rfl)) rfl) ?_
                    refine wa_lload_n (i := 2) rfl rfl ?_
                    refine wa_lmul ?_
                    refine wa_topl (fun v19 hv19 => ?_)
                    first | (refine l_mulK hv19 ?_ ?_ (fun tv19 => ?_); (((try simp only [vp_in_iff, Int32.lt_iff_toInt_lt, Int32.le_iff_toInt_le, ← Int32.toInt_inj, Int32.reduceToInt, n_1, n_2, n_8, Int32.toNatClampNeg, Int64.lt_iff_toInt_lt, Int64.le_iff_toInt_le, ← Int64.toInt_inj, Int64.reduceToInt, Int32.toInt_toInt64, lg_cmp_ge, lg_cmp_le, lg_cmp_gt, lg_cmp_lt, lg_cmp_eq, Bool.false_eq_true, Bool.true_eq_false, reduceCtorEq, false_iff, true_iff, iff_true, iff_false, and_true, true_and, and_false, false_and, reduceIte, ite_true, ite_false, eq_self] at *)) <;> omega); (((try simp only [vp_in_iff, Int32.lt_iff_toInt_lt, Int32.le_iff_toInt_le, ← Int32.toInt_inj, Int32.reduceToInt, n_1, n_2, n_8, Int32.toNatClampNeg, Int64.lt_iff_toInt_lt, Int64.le_iff_toInt_le, ← Int64.toInt_inj, Int64.reduceToInt, Int32.toInt_toInt64, lg_cmp_ge, lg_cmp_le, lg_cmp_gt, lg_cmp_lt, lg_cmp_eq, Bool.false_eq_true, Bool.true_eq_false, reduceCtorEq, false_iff, true_iff, iff_true, iff_false, and_true, true_and, and_false, false_and, reduceIte, ite_true, ite_false, eq_self] at *)) <;> omega)) | skip
                    clear hv19
                    refine wa_lcmp ?_
                    refine wa_top (fun v20 hv20 => ?_)
                    have tv20 := i_cmpT hv20
                    clear hv20
                    refine wa_if_gt o_X12_bound_222 (by decide) (fun h21 => ?_) (fun h21 => ?_)
                    · refine wa_iload_n (i := 1) rfl rfl ?_
                      refine wa_iconst (v := 4) (by decide) ?_
                      refine wa_idiv (by ((try simp only [vp_in_iff, Int32.lt_iff_toInt_lt, Int32.le_iff_toInt_le, ← Int32.toInt_inj, Int32.reduceToInt, n_1, n_2, n_8, Int32.toNatClampNeg, Int64.lt_iff_toInt_lt, Int64.le_iff_toInt_le, ← Int64.toInt_inj, Int64.reduceToInt, Int32.toInt_toInt64, lg_cmp_ge, lg_cmp_le, lg_cmp_gt, lg_cmp_lt, lg_cmp_eq, Bool.false_eq_true, Bool.true_eq_false, reduceCtorEq, false_iff, true_iff, iff_true, iff_false, and_true, true_and, and_false, false_and, reduceIte, ite_true, ite_false, eq_self] at *)) <;> omega) ?_
                      refine wa_top (fun v22 hv22 => ?_)
                      first | (refine i_divK hv22 ?_ ?_ (fun tv22 => ?_); (((try simp only [vp_in_iff, Int32.lt_iff_toInt_lt, Int32.le_iff_toInt_le, ← Int32.toInt_inj, Int32.reduceToInt, n_1, n_2, n_8, Int32.toNatClampNeg, Int64.lt_iff_toInt_lt, Int64.le_iff_toInt_le, ← Int64.toInt_inj, Int64.reduceToInt, Int32.toInt_toInt64, lg_cmp_ge, lg_cmp_le, lg_cmp_gt, lg_cmp_lt, lg_cmp_eq, Bool.false_eq_true, Bool.true_eq_false, reduceCtorEq, false_iff, true_iff, iff_true, iff_false, and_true, true_and, and_false, false_and, reduceIte, ite_true, ite_false, eq_self] at *)) <;> omega); (((try simp only [vp_in_iff, Int32.lt_iff_toInt_lt, Int32.le_iff_toInt_le, ← Int32.toInt_inj, Int32.reduceToInt, n_1, n_2, n_8, Int32.toNatClampNeg, Int64.lt_iff_toInt_lt, Int64.le_iff_toInt_le, ← Int64.toInt_inj, Int64.reduceToInt, Int32.toInt_toInt64, lg_cmp_ge, lg_cmp_le, lg_cmp_gt, lg_cmp_lt, lg_cmp_eq, Bool.false_eq_true, Bool.true_eq_false, reduceCtorEq, false_iff, true_iff, iff_true, iff_false, and_true, true_and, and_false, false_and, reduceIte, ite_true, ite_false, eq_self] at *)) <;> omega)) | skip
                      clear hv22
                      refine wa_aload_n (i := 0) rfl rfl ?_
                      refine wa_geti ck_12 fl_12_1299 ly_84 ?_
                      refine wa_icmp_lt o_X12_bound_234 (by decide) (fun h23 => ?_) (fun h23 => ?_)
                      · refine wa_aload_n (i := 0) rfl rfl ?_
                        refine wa_getr ck_12 fl_12_456 ly_84 rf_84_193 ?_
                        refine wa_iload_n (i := 1) rfl rfl ?_
                        refine wa_iconst (v := 4) (by decide) ?_
                        refine wa_idiv (by ((try simp only [vp_in_iff, Int32.lt_iff_toInt_lt, Int32.le_iff_toInt_le, ← Int32.toInt_inj, Int32.reduceToInt, n_1, n_2, n_8, Int32.toNatClampNeg, Int64.lt_iff_toInt_lt, Int64.le_iff_toInt_le, ← Int64.toInt_inj, Int64.reduceToInt, Int32.toInt_toInt64, lg_cmp_ge, lg_cmp_le, lg_cmp_gt, lg_cmp_lt, lg_cmp_eq, Bool.false_eq_true, Bool.true_eq_false, reduceCtorEq, false_iff, true_iff, iff_true, iff_false, and_true, true_and, and_false, false_and, reduceIte, ite_true, ite_false, eq_self] at *)) <;> omega) ?_
                        refine wa_top (fun v24 hv24 => ?_)
                        first | (refine i_divK hv24 ?_ ?_ (fun tv24 => ?_); (((try simp only [vp_in_iff, Int32.lt_iff_toInt_lt, Int32.le_iff_toInt_le, ← Int32.toInt_inj, Int32.reduceToInt, n_1, n_2, n_8, Int32.toNatClampNeg, Int64.lt_iff_toInt_lt, Int64.le_iff_toInt_le, ← Int64.toInt_inj, Int64.reduceToInt, Int32.toInt_toInt64, lg_cmp_ge, lg_cmp_le, lg_cmp_gt, lg_cmp_lt, lg_cmp_eq, Bool.false_eq_true, Bool.true_eq_false, reduceCtorEq, false_iff, true_iff, iff_true, iff_false, and_true, true_and, and_false, false_and, reduceIte, ite_true, ite_false, eq_self] at *)) <;> omega); (((try simp only [vp_in_iff, Int32.lt_iff_toInt_lt, Int32.le_iff_toInt_le, ← Int32.toInt_inj, Int32.reduceToInt, n_1, n_2, n_8, Int32.toNatClampNeg, Int64.lt_iff_toInt_lt, Int64.le_iff_toInt_le, ← Int64.toInt_inj, Int64.reduceToInt, Int32.toInt_toInt64, lg_cmp_ge, lg_cmp_le, lg_cmp_gt, lg_cmp_lt, lg_cmp_eq, Bool.false_eq_true, Bool.true_eq_false, reduceCtorEq, false_iff, true_iff, iff_true, iff_false, and_true, true_and, and_false, false_and, reduceIte, ite_true, ite_false, eq_self] at *)) <;> omega)) | skip
                        clear hv24
                        refine wa_iald ly_85 (by ((try simp only [vp_in_iff, Int32.lt_iff_toInt_lt, Int32.le_iff_toInt_le, ← Int32.toInt_inj, Int32.reduceToInt, n_1, n_2, n_8, Int32.toNatClampNeg, Int64.lt_iff_toInt_lt, Int64.le_iff_toInt_le, ← Int64.toInt_inj, Int64.reduceToInt, Int32.toInt_toInt64, lg_cmp_ge, lg_cmp_le, lg_cmp_gt, lg_cmp_lt, lg_cmp_eq, Bool.false_eq_true, Bool.true_eq_false, reduceCtorEq, false_iff, true_iff, iff_true, iff_false, and_true, true_and, and_false, false_and, reduceIte, ite_true, ite_false, eq_self] at *)) <;> omega) ?_
                        refine wa_top (fun v25 hv25 => ?_)
                        have rv25 : 0 ≤ v25.toInt ∧ v25.toInt ≤ 9999 := by rw [← hv25]; exact ar_at As16_85 _
                        clear hv25
                        refine wa_istoreD (lv' := [(6, .int v25), (0, .ref 84), (1, .int a0), (2, .long l2), (4, .long l4)]) (by decide) rfl ?_
                        refine wa_iconst (v := 0) (by decide) ?_
                        refine wa_istoreD (lv' := [(7, .int 0), (6, .int v25), (0, .ref 84), (1, .int a0), (2, .long l2), (4, .long l4)]) (by decide) rfl ?_
                        refine wa_pick [3, 1, 0] rfl ?_
                        have hi27 : ∀ (n9_247 : Nat) (l6 : Int32) (l7 : Int32), ((0 ≤ l7.toInt) ∧ (True)) → (2147483647 - l7.toInt).toNat = n9_247 → WA G M_X12_bound (ZM G M_X12_bound d (fun r σ' => ∃ x : Int32, r = some (.int x) ∧ Fm [85, 133, 135, 136, 137] [0, 119, 194] σ σ' ∧ AR ap_85 σ' 85 ∧ AR ap_135 σ' 135 ∧ AR ap_136 σ' 136 ∧ AR ap_137 σ' 137 ∧ WOK σ' ∧ True)) B_X12_bound_247 [(1, .int a0), (6, .int l6), (7, .int l7)] [] s16 := by
                          intro n9_247
                          induction n9_247 using Nat.strongRecOn with
                          | _ n9_247 ih26 =>
                            intro l6 l7  i9 m9_247
                            obtain ⟨jhi27_0, -⟩ := i9
                            have ul6 := Int32.toInt_lt l6
                            have wl6 := Int32.le_toInt l6
                            have ul7 := Int32.toInt_lt l7
                            have wl7 := Int32.le_toInt l7
                            refine wa_iload rfl ?_
                            refine wa_iload_n (i := 1) rfl rfl ?_
                            refine wa_iconst (v := 4) (by decide) ?_
                            refine wa_irem (by ((try simp only [vp_in_iff, Int32.lt_iff_toInt_lt, Int32.le_iff_toInt_le, ← Int32.toInt_inj, Int32.reduceToInt, n_1, n_2, n_8, Int32.toNatClampNeg, Int64.lt_iff_toInt_lt, Int64.le_iff_toInt_le, ← Int64.toInt_inj, Int64.reduceToInt, Int32.toInt_toInt64, lg_cmp_ge, lg_cmp_le, lg_cmp_gt, lg_cmp_lt, lg_cmp_eq, Bool.false_eq_true, Bool.true_eq_false, reduceCtorEq, false_iff, true_iff, iff_true, iff_false, and_true, true_and, and_false, false_and, reduceIte, ite_true, ite_false, eq_self] at *)) <;> omega) ?_
                            refine wa_top (fun v28 hv28 => ?_)
                            first | (refine i_remK hv28 ?_ ?_ (fun tv28 => ?_); (((try simp only [vp_in_iff, Int32.lt_iff_toInt_lt, Int32.le_iff_toInt_le, ← Int32.toInt_inj, Int32.reduceToInt, n_1, n_2, n_8, Int32.toNatClampNeg, Int64.lt_iff_toInt_lt, Int64.le_iff_toInt_le, ← Int64.toInt_inj, Int64.reduceToInt, Int32.toInt_toInt64, lg_cmp_ge, lg_cmp_le, lg_cmp_gt, lg_cmp_lt, lg_cmp_eq, Bool.false_eq_true, Bool.true_eq_false, reduceCtorEq, false_iff, true_iff, iff_true, iff_false, and_true, true_and, and_false, false_and, reduceIte, ite_true, ite_false, eq_self] at *)) <;> omega); (((try simp only [vp_in_iff, Int32.lt_iff_toInt_lt, Int32.le_iff_toInt_le, ← Int32.toInt_inj, Int32.reduceToInt, n_1, n_2, n_8, Int32.toNatClampNeg, Int64.lt_iff_toInt_lt, Int64.le_iff_toInt_le, ← Int64.toInt_inj, Int64.reduceToInt, Int32.toInt_toInt64, lg_cmp_ge, lg_cmp_le, lg_cmp_gt, lg_cmp_lt, lg_cmp_eq, Bool.false_eq_true, Bool.true_eq_false, reduceCtorEq, false_iff, true_iff, iff_true, iff_false, and_true, true_and, and_false, false_and, reduceIte, ite_true, ite_false, eq_self] at *)) <;> omega)) | (refine i_remK2 hv28 ?_ (fun tv28 => ?_); (((try simp only [vp_in_iff, Int32.lt_iff_toInt_lt, Int32.le_iff_toInt_le, ← Int32.toInt_inj, Int32.reduceToInt, n_1, n_2, n_8, Int32.toNatClampNeg, Int64.lt_iff_toInt_lt, Int64.le_iff_toInt_le, ← Int64.toInt_inj, Int64.reduceToInt, Int32.toInt_toInt64, lg_cmp_ge, lg_cmp_le, lg_cmp_gt, lg_cmp_lt, lg_cmp_eq, Bool.false_eq_true, Bool.true_eq_false, reduceCtorEq, false_iff, true_iff, iff_true, iff_false, and_true, true_and, and_false, false_and, reduceIte, ite_true, ite_false, eq_self] at *)) <;> omega)) | skip
                            clear hv28
                            refine wa_icmp_ge o_X12_bound_268 (by decide) (fun h29 => ?_) (fun h29 => ?_)
                            · refine wa_iload rfl ?_
                              refine wa_bipush (v := 10) (by decide) ?_
                              refine wa_irem (by ((try simp only [vp_in_iff, Int32.lt_iff_toInt_lt, Int32.le_iff_toInt_le, ← Int32.toInt_inj, Int32.reduceToInt, n_1, n_2, n_8, Int32.toNatClampNeg, Int64.lt_iff_toInt_lt, Int64.le_iff_toInt_le, ← Int64.toInt_inj, Int64.reduceToInt, Int32.toInt_toInt64, lg_cmp_ge, lg_cmp_le, lg_cmp_gt, lg_cmp_lt, lg_cmp_eq, Bool.false_eq_true, Bool.true_eq_false, reduceCtorEq, false_iff, true_iff, iff_true, iff_false, and_true, true_and, and_false, false_and, reduceIte, ite_true, ite_false, eq_self] at *)) <;> omega) ?_
                              refine wa_top (fun v30 hv30 => ?_)
                              first | (refine i_remK hv30 ?_ ?_ (fun tv30 => ?_); (((try simp only [vp_in_iff, Int32.lt_iff_toInt_lt, Int32.le_iff_toInt_le, ← Int32.toInt_inj, Int32.reduceToInt, n_1, n_2, n_8, Int32.toNatClampNeg, Int64.lt_iff_toInt_lt, Int64.le_iff_toInt_le, ← Int64.toInt_inj, Int64.reduceToInt, Int32.toInt_toInt64, lg_cmp_ge, lg_cmp_le, lg_cmp_gt, lg_cmp_lt, lg_cmp_eq, Bool.false_eq_true, Bool.true_eq_false, reduceCtorEq, false_iff, true_iff, iff_true, iff_false, and_true, true_and, and_false, false_and, reduceIte, ite_true, ite_false, eq_self] at *)) <;> omega); (((try simp only [vp_in_iff, Int32.lt_iff_toInt_lt, Int32.le_iff_toInt_le, ← Int32.toInt_inj, Int32.reduceToInt, n_1, n_2, n_8, Int32.toNatClampNeg, Int64.lt_iff_toInt_lt, Int64.le_iff_toInt_le, ← Int64.toInt_inj, Int64.reduceToInt, Int32.toInt_toInt64, lg_cmp_ge, lg_cmp_le, lg_cmp_gt, lg_cmp_lt, lg_cmp_eq, Bool.false_eq_true, Bool.true_eq_false, reduceCtorEq, false_iff, true_iff, iff_true, iff_false, and_true, true_and, and_false, false_and, reduceIte, ite_true, ite_false, eq_self] at *)) <;> omega)) | (refine i_remK2 hv30 ?_ (fun tv30 => ?_); (((try simp only [vp_in_iff, Int32.lt_iff_toInt_lt, Int32.le_iff_toInt_le, ← Int32.toInt_inj, Int32.reduceToInt, n_1, n_2, n_8, Int32.toNatClampNeg, Int64.lt_iff_toInt_lt, Int64.le_iff_toInt_le, ← Int64.toInt_inj, Int64.reduceToInt, Int32.toInt_toInt64, lg_cmp_ge, lg_cmp_le, lg_cmp_gt, lg_cmp_lt, lg_cmp_eq, Bool.false_eq_true, Bool.true_eq_false, reduceCtorEq, false_iff, true_iff, iff_true, iff_false, and_true, true_and, and_false, false_and, reduceIte, ite_true, ite_false, eq_self] at *)) <;> omega)) | skip
                              clear hv30
                              refine wa_ireturn rfl rfl ?_
                              exact ⟨_, rfl, Fs16, As16_85, As16_135, As16_136, As16_137, Ps16_WOK, trivial⟩
                            · have mh29 := nle_mx h29
                              refine wa_iload rfl ?_
                              refine wa_bipush (v := 10) (by decide) ?_
                              refine wa_idiv (by ((try simp only [vp_in_iff, Int32.lt_iff_toInt_lt, Int32.le_iff_toInt_le, ← Int32.toInt_inj, Int32.reduceToInt, n_1, n_2, n_8, Int32.toNatClampNeg, Int64.lt_iff_toInt_lt, Int64.le_iff_toInt_le, ← Int64.toInt_inj, Int64.reduceToInt, Int32.toInt_toInt64, lg_cmp_ge, lg_cmp_le, lg_cmp_gt, lg_cmp_lt, lg_cmp_eq, Bool.false_eq_true, Bool.true_eq_false, reduceCtorEq, false_iff, true_iff, iff_true, iff_false, and_true, true_and, and_false, false_and, reduceIte, ite_true, ite_false, eq_self] at *)) <;> omega) ?_
                              refine wa_top (fun v31 hv31 => ?_)
                              first | (refine i_divK hv31 ?_ ?_ (fun tv31 => ?_); (((try simp only [vp_in_iff, Int32.lt_iff_toInt_lt, Int32.le_iff_toInt_le, ← Int32.toInt_inj, Int32.reduceToInt, n_1, n_2, n_8, Int32.toNatClampNeg, Int64.lt_iff_toInt_lt, Int64.le_iff_toInt_le, ← Int64.toInt_inj, Int64.reduceToInt, Int32.toInt_toInt64, lg_cmp_ge, lg_cmp_le, lg_cmp_gt, lg_cmp_lt, lg_cmp_eq, Bool.false_eq_true, Bool.true_eq_false, reduceCtorEq, false_iff, true_iff, iff_true, iff_false, and_true, true_and, and_false, false_and, reduceIte, ite_true, ite_false, eq_self] at *)) <;> omega); (((try simp only [vp_in_iff, Int32.lt_iff_toInt_lt, Int32.le_iff_toInt_le, ← Int32.toInt_inj, Int32.reduceToInt, n_1, n_2, n_8, Int32.toNatClampNeg, Int64.lt_iff_toInt_lt, Int64.le_iff_toInt_le, ← Int64.toInt_inj, Int64.reduceToInt, Int32.toInt_toInt64, lg_cmp_ge, lg_cmp_le, lg_cmp_gt, lg_cmp_lt, lg_cmp_eq, Bool.false_eq_true, Bool.true_eq_false, reduceCtorEq, false_iff, true_iff, iff_true, iff_false, and_true, true_and, and_false, false_and, reduceIte, ite_true, ite_false, eq_self] at *)) <;> omega)) | skip
                              clear hv31
                              refine wa_istoreD (lv' := [(6, .int v31), (1, .int a0), (7, .int l7)]) (by decide) rfl ?_
                              refine wa_iinc (v := (1)) (lv' := fun y32 => [(7, .int y32), (6, .int v31), (1, .int a0)]) (by decide) rfl (by decide) (fun _ => rfl) (fun y32 hy32 => ?_)
                              replace hy32 := hy32.symm
                              first | (refine i_addK hy32 ?_ ?_ (fun ty32 => ?_); (((try simp only [vp_in_iff, Int32.lt_iff_toInt_lt, Int32.le_iff_toInt_le, ← Int32.toInt_inj, Int32.reduceToInt, n_1, n_2, n_8, Int32.toNatClampNeg, Int64.lt_iff_toInt_lt, Int64.le_iff_toInt_le, ← Int64.toInt_inj, Int64.reduceToInt, Int32.toInt_toInt64, lg_cmp_ge, lg_cmp_le, lg_cmp_gt, lg_cmp_lt, lg_cmp_eq, Bool.false_eq_true, Bool.true_eq_false, reduceCtorEq, false_iff, true_iff, iff_true, iff_false, and_true, true_and, and_false, false_and, reduceIte, ite_true, ite_false, eq_self] at *)) <;> omega); (((try simp only [vp_in_iff, Int32.lt_iff_toInt_lt, Int32.le_iff_toInt_le, ← Int32.toInt_inj, Int32.reduceToInt, n_1, n_2, n_8, Int32.toNatClampNeg, Int64.lt_iff_toInt_lt, Int64.le_iff_toInt_le, ← Int64.toInt_inj, Int64.reduceToInt, Int32.toInt_toInt64, lg_cmp_ge, lg_cmp_le, lg_cmp_gt, lg_cmp_lt, lg_cmp_eq, Bool.false_eq_true, Bool.true_eq_false, reduceCtorEq, false_iff, true_iff, iff_true, iff_false, and_true, true_and, and_false, false_and, reduceIte, ite_true, ite_false, eq_self] at *)) <;> omega)) | skip
                              clear hy32
                              refine wa_goto o_X12_bound_247 (by decide) ?_
                              refine wa_pick [2, 1, 0] rfl ?_
                              exact ih26 _ (by ((try simp only [vp_in_iff, Int32.lt_iff_toInt_lt, Int32.le_iff_toInt_le, ← Int32.toInt_inj, Int32.reduceToInt, n_1, n_2, n_8, Int32.toNatClampNeg, Int64.lt_iff_toInt_lt, Int64.le_iff_toInt_le, ← Int64.toInt_inj, Int64.reduceToInt, Int32.toInt_toInt64, lg_cmp_ge, lg_cmp_le, lg_cmp_gt, lg_cmp_lt, lg_cmp_eq, Bool.false_eq_true, Bool.true_eq_false, reduceCtorEq, false_iff, true_iff, iff_true, iff_false, and_true, true_and, and_false, false_and, reduceIte, ite_true, ite_false, eq_self] at *)) <;> omega) _ _ ⟨(by ((try simp only [vp_in_iff, Int32.lt_iff_toInt_lt, Int32.le_iff_toInt_le, ← Int32.toInt_inj, Int32.reduceToInt, n_1, n_2, n_8, Int32.toNatClampNeg, Int64.lt_iff_toInt_lt, Int64.le_iff_toInt_le, ← Int64.toInt_inj, Int64.reduceToInt, Int32.toInt_toInt64, lg_cmp_ge, lg_cmp_le, lg_cmp_gt, lg_cmp_lt, lg_cmp_eq, Bool.false_eq_true, Bool.true_eq_false, reduceCtorEq, false_iff, true_iff, iff_true, iff_false, and_true, true_and, and_false, false_and, reduceIte, ite_true, ite_false, eq_self] at *)) <;> omega), trivial⟩ rfl
                        exact hi27 _ _ _ ⟨(by ((try simp only [vp_in_iff, Int32.lt_iff_toInt_lt, Int32.le_iff_toInt_le, ← Int32.toInt_inj, Int32.reduceToInt, n_1, n_2, n_8, Int32.toNatClampNeg, Int64.lt_iff_toInt_lt, Int64.le_iff_toInt_le, ← Int64.toInt_inj, Int64.reduceToInt, Int32.toInt_toInt64, lg_cmp_ge, lg_cmp_le, lg_cmp_gt, lg_cmp_lt, lg_cmp_eq, Bool.false_eq_true, Bool.true_eq_false, reduceCtorEq, false_iff, true_iff, iff_true, iff_false, and_true, true_and, and_false, false_and, reduceIte, ite_true, ite_false, eq_self] at *)) <;> omega), trivial⟩ rfl
                      · refine wa_iconst (v := 0) (by decide) ?_
                        refine wa_ireturn rfl rfl ?_
                        exact ⟨_, rfl, Fs16, As16_85, As16_135, As16_136, As16_137, Ps16_WOK, trivial⟩
                    · have mb := mul_bd2 (a := (l2).toInt) (b := (l4).toInt) (m := 576) (n := 99999) (by ((try simp only [vp_in_iff, Int32.lt_iff_toInt_lt, Int32.le_iff_toInt_le, ← Int32.toInt_inj, Int32.reduceToInt, n_1, n_2, n_8, Int32.toNatClampNeg, Int64.lt_iff_toInt_lt, Int64.le_iff_toInt_le, ← Int64.toInt_inj, Int64.reduceToInt, Int32.toInt_toInt64, lg_cmp_ge, lg_cmp_le, lg_cmp_gt, lg_cmp_lt, lg_cmp_eq, Bool.false_eq_true, Bool.true_eq_false, reduceCtorEq, false_iff, true_iff, iff_true, iff_false, and_true, true_and, and_false, false_and, reduceIte, ite_true, ite_false, eq_self] at *)) <;> omega) (by ((try simp only [vp_in_iff, Int32.lt_iff_toInt_lt, Int32.le_iff_toInt_le, ← Int32.toInt_inj, Int32.reduceToInt, n_1, n_2, n_8, Int32.toNatClampNeg, Int64.lt_iff_toInt_lt, Int64.le_iff_toInt_le, ← Int64.toInt_inj, Int64.reduceToInt, Int32.toInt_toInt64, lg_cmp_ge, lg_cmp_le, lg_cmp_gt, lg_cmp_lt, lg_cmp_eq, Bool.false_eq_true, Bool.true_eq_false, reduceCtorEq, false_iff, true_iff, iff_true, iff_false, and_true, true_and, and_false, false_and, reduceIte, ite_true, ite_false, eq_self] at *)) <;> omega) (by ((try simp only [vp_in_iff, Int32.lt_iff_toInt_lt, Int32.le_iff_toInt_le, ← Int32.toInt_inj, Int32.reduceToInt, n_1, n_2, n_8, Int32.toNatClampNeg, Int64.lt_iff_toInt_lt, Int64.le_iff_toInt_le, ← Int64.toInt_inj, Int64.reduceToInt, Int32.toInt_toInt64, lg_cmp_ge, lg_cmp_le, lg_cmp_gt, lg_cmp_lt, lg_cmp_eq, Bool.false_eq_true, Bool.true_eq_false, reduceCtorEq, false_iff, true_iff, iff_true, iff_false, and_true, true_and, and_false, false_and, reduceIte, ite_true, ite_false, eq_self] at *)) <;> omega) (by ((try simp only [vp_in_iff, Int32.lt_iff_toInt_lt, Int32.le_iff_toInt_le, ← Int32.toInt_inj, Int32.reduceToInt, n_1, n_2, n_8, Int32.toNatClampNeg, Int64.lt_iff_toInt_lt, Int64.le_iff_toInt_le, ← Int64.toInt_inj, Int64.reduceToInt, Int32.toInt_toInt64, lg_cmp_ge, lg_cmp_le, lg_cmp_gt, lg_cmp_lt, lg_cmp_eq, Bool.false_eq_true, Bool.true_eq_false, reduceCtorEq, false_iff, true_iff, iff_true, iff_false, and_true, true_and, and_false, false_and, reduceIte, ite_true, ite_false, eq_self] at *)) <;> omega)
                      refine wa_aload_n (i := 0) rfl rfl ?_
                      refine wa_lload_n (i := 2) rfl rfl ?_
                      refine wa_lload rfl ?_
                      refine wa_lmul ?_
                      refine wa_topl (fun v33 hv33 => ?_)
                      first | (refine l_mulK hv33 ?_ ?_ (fun tv33 => ?_); (((try simp only [vp_in_iff, Int32.lt_iff_toInt_lt, Int32.le_iff_toInt_le, ← Int32.toInt_inj, Int32.reduceToInt, n_1, n_2, n_8, Int32.toNatClampNeg, Int64.lt_iff_toInt_lt, Int64.le_iff_toInt_le, ← Int64.toInt_inj, Int64.reduceToInt, Int32.toInt_toInt64, lg_cmp_ge, lg_cmp_le, lg_cmp_gt, lg_cmp_lt, lg_cmp_eq, Bool.false_eq_true, Bool.true_eq_false, reduceCtorEq, false_iff, true_iff, iff_true, iff_false, and_true, true_and, and_false, false_and, reduceIte, ite_true, ite_false, eq_self] at *)) <;> omega); (((try simp only [vp_in_iff, Int32.lt_iff_toInt_lt, Int32.le_iff_toInt_le, ← Int32.toInt_inj, Int32.reduceToInt, n_1, n_2, n_8, Int32.toNatClampNeg, Int64.lt_iff_toInt_lt, Int64.le_iff_toInt_le, ← Int64.toInt_inj, Int64.reduceToInt, Int32.toInt_toInt64, lg_cmp_ge, lg_cmp_le, lg_cmp_gt, lg_cmp_lt, lg_cmp_eq, Bool.false_eq_true, Bool.true_eq_false, reduceCtorEq, false_iff, true_iff, iff_true, iff_false, and_true, true_and, and_false, false_and, reduceIte, ite_true, ite_false, eq_self] at *)) <;> omega)) | skip
                      clear hv33
                      refine wa_Vv (d9 := d - 1) [.long _] [] (sp_X12_times G (d := d - 1) (by omega) s16 _ (by ((try simp only [vp_in_iff, Int32.lt_iff_toInt_lt, Int32.le_iff_toInt_le, ← Int32.toInt_inj, Int32.reduceToInt, n_1, n_2, n_8, Int32.toNatClampNeg, Int64.lt_iff_toInt_lt, Int64.le_iff_toInt_le, ← Int64.toInt_inj, Int64.reduceToInt, Int32.toInt_toInt64, lg_cmp_ge, lg_cmp_le, lg_cmp_gt, lg_cmp_lt, lg_cmp_eq, Bool.false_eq_true, Bool.true_eq_false, reduceCtorEq, false_iff, true_iff, iff_true, iff_false, and_true, true_and, and_false, false_and, reduceIte, ite_true, ite_false, eq_self] at *)) <;> omega) (by first | assumption | exact Or.inl rfl | exact Or.inr rfl | (((try simp only [vp_in_iff, Int32.lt_iff_toInt_lt, Int32.le_iff_toInt_le, ← Int32.toInt_inj, Int32.reduceToInt, n_1, n_2, n_8, Int32.toNatClampNeg, Int64.lt_iff_toInt_lt, Int64.le_iff_toInt_le, ← Int64.toInt_inj, Int64.reduceToInt, Int32.toInt_toInt64, lg_cmp_ge, lg_cmp_le, lg_cmp_gt, lg_cmp_lt, lg_cmp_eq, Bool.false_eq_true, Bool.true_eq_false, reduceCtorEq, false_iff, true_iff, iff_true, iff_false, and_true, true_and, and_false, false_and, reduceIte, ite_true, ite_false, eq_self] at *)) <;> omega)) As16_85) (rfl) rfl rfl (zr (by omega)) mk_X12_times ly_84 ml_12_1304 (Nat.le_of_ble_eq_true rfl) (fun s34 hs34 => ?_)
                      obtain ⟨fs34, cx35_1, As34_85, -⟩ := hs34
                      have Fs34 : Fm [85, 133, 135, 136, 137] [0, 119, 194] σ s34 := Fm.tr Fs16 (Fm.wd fs34 rfl rfl)
                      refine wa_lload rfl ?_
                      refine wa_lconst (v := 1) (by decide) ?_
                      refine wa_ladd ?_
                      refine wa_topl (fun v36 hv36 => ?_)
                      first | (refine l_addK hv36 ?_ ?_ (fun tv36 => ?_); (((try simp only [vp_in_iff, Int32.lt_iff_toInt_lt, Int32.le_iff_toInt_le, ← Int32.toInt_inj, Int32.reduceToInt, n_1, n_2, n_8, Int32.toNatClampNeg, Int64.lt_iff_toInt_lt, Int64.le_iff_toInt_le, ← Int64.toInt_inj, Int64.reduceToInt, Int32.toInt_toInt64, lg_cmp_ge, lg_cmp_le, lg_cmp_gt, lg_cmp_lt, lg_cmp_eq, Bool.false_eq_true, Bool.true_eq_false, reduceCtorEq, false_iff, true_iff, iff_true, iff_false, and_true, true_and, and_false, false_and, reduceIte, ite_true, ite_false, eq_self] at *)) <;> omega); (((try simp only [vp_in_iff, Int32.lt_iff_toInt_lt, Int32.le_iff_toInt_le, ← Int32.toInt_inj, Int32.reduceToInt, n_1, n_2, n_8, Int32.toNatClampNeg, Int64.lt_iff_toInt_lt, Int64.le_iff_toInt_le, ← Int64.toInt_inj, Int64.reduceToInt, Int32.toInt_toInt64, lg_cmp_ge, lg_cmp_le, lg_cmp_gt, lg_cmp_lt, lg_cmp_eq, Bool.false_eq_true, Bool.true_eq_false, reduceCtorEq, false_iff, true_iff, iff_true, iff_false, and_true, true_and, and_false, false_and, reduceIte, ite_true, ite_false, eq_self] at *)) <;> omega)) | skip
                      clear hv36
                      refine wa_lstoreD (lv' := [(6, .long v36), (0, .ref 84), (1, .int a0), (2, .long l2), (4, .long l4)]) (by decide) rfl ?_
                      refine wa_goto o_X12_bound_194 (by decide) ?_
                      refine wa_pick [1, 2, 3, 4, 0] rfl ?_
                      exact ih17 _ (by ((try simp only [vp_in_iff, Int32.lt_iff_toInt_lt, Int32.le_iff_toInt_le, ← Int32.toInt_inj, Int32.reduceToInt, n_1, n_2, n_8, Int32.toNatClampNeg, Int64.lt_iff_toInt_lt, Int64.le_iff_toInt_le, ← Int64.toInt_inj, Int64.reduceToInt, Int32.toInt_toInt64, lg_cmp_ge, lg_cmp_le, lg_cmp_gt, lg_cmp_lt, lg_cmp_eq, Bool.false_eq_true, Bool.true_eq_false, reduceCtorEq, false_iff, true_iff, iff_true, iff_false, and_true, true_and, and_false, false_and, reduceIte, ite_true, ite_false, eq_self] at *)) <;> omega) _ _ ⟨Fs34, ((Fm.gi fs34 (q := 84) (k := 33) rfl rfl).trans (khi18_0)), ((Fm.gi fs34 (q := 84) (k := 32) rfl rfl).trans (khi18_1)), ((Fm.gi fs34 (q := 84) (k := 119) rfl rfl).trans (khi18_2)), As34_85, (ar_fm fs34 rfl rfl As16_135), (ar_fm fs34 rfl rfl As16_136), (ar_fm fs34 rfl rfl As16_137), (WOK_of (fun k => Fm.gi fs34 (q := 135) (k := k) rfl rfl) (fun k => Fm.gi fs34 (q := 136) (k := k) rfl rfl) Ps16_WOK), (by ((try simp only [vp_in_iff, Int32.lt_iff_toInt_lt, Int32.le_iff_toInt_le, ← Int32.toInt_inj, Int32.reduceToInt, n_1, n_2, n_8, Int32.toNatClampNeg, Int64.lt_iff_toInt_lt, Int64.le_iff_toInt_le, ← Int64.toInt_inj, Int64.reduceToInt, Int32.toInt_toInt64, lg_cmp_ge, lg_cmp_le, lg_cmp_gt, lg_cmp_lt, lg_cmp_eq, Bool.false_eq_true, Bool.true_eq_false, reduceCtorEq, false_iff, true_iff, iff_true, iff_false, and_true, true_and, and_false, false_and, reduceIte, ite_true, ite_false, eq_self] at *)) <;> omega), (by first | assumption | (((try simp only [vp_in_iff, Int32.lt_iff_toInt_lt, Int32.le_iff_toInt_le, ← Int32.toInt_inj, Int32.reduceToInt, n_1, n_2, n_8, Int32.toNatClampNeg, Int64.lt_iff_toInt_lt, Int64.le_iff_toInt_le, ← Int64.toInt_inj, Int64.reduceToInt, Int32.toInt_toInt64, lg_cmp_ge, lg_cmp_le, lg_cmp_gt, lg_cmp_lt, lg_cmp_eq, Bool.false_eq_true, Bool.true_eq_false, reduceCtorEq, false_iff, true_iff, iff_true, iff_false, and_true, true_and, and_false, false_and, reduceIte, ite_true, ite_false, eq_self] at *)) <;> omega)), trivial⟩ rfl
                exact hi18 _ _ _ ⟨Fs15, ((nxk_gi_si hs15 (by decide)).trans ((nxq_gi_si hs14 (by decide)).trans (khi8_0))), ((nxk_gi_si hs15 (by decide)).trans ((nxq_gi_si hs14 (by decide)).trans (khi8_1))), ((nxk_gi_si hs15 (by decide)).trans ((nxq_gi_si hs14 (by decide)).trans (khi8_2))), (ar_ni hs15 (by decide) (ar_w hs14 Vs14 As6_85)), (ar_ni hs15 (by decide) (ar_ni hs14 (by decide) As6_135)), (ar_ni hs15 (by decide) (ar_ni hs14 (by decide) As6_136)), (ar_ni hs15 (by decide) (ar_ni hs14 (by decide) As6_137)), (WOK_of (fun k => (nxq_gi_si hs15 (by decide)).trans (nxq_gi_si hs14 (by decide))) (fun k => (nxq_gi_si hs15 (by decide)).trans (nxq_gi_si hs14 (by decide))) Ps6_WOK), (by ((try simp only [vp_in_iff, Int32.lt_iff_toInt_lt, Int32.le_iff_toInt_le, ← Int32.toInt_inj, Int32.reduceToInt, n_1, n_2, n_8, Int32.toNatClampNeg, Int64.lt_iff_toInt_lt, Int64.le_iff_toInt_le, ← Int64.toInt_inj, Int64.reduceToInt, Int32.toInt_toInt64, lg_cmp_ge, lg_cmp_le, lg_cmp_gt, lg_cmp_lt, lg_cmp_eq, Bool.false_eq_true, Bool.true_eq_false, reduceCtorEq, false_iff, true_iff, iff_true, iff_false, and_true, true_and, and_false, false_and, reduceIte, ite_true, ite_false, eq_self] at *)) <;> omega), (by rw [nxe_gi_si hs15]; first | assumption | (((try simp only [vp_in_iff, Int32.lt_iff_toInt_lt, Int32.le_iff_toInt_le, ← Int32.toInt_inj, Int32.reduceToInt, n_1, n_2, n_8, Int32.toNatClampNeg, Int64.lt_iff_toInt_lt, Int64.le_iff_toInt_le, ← Int64.toInt_inj, Int64.reduceToInt, Int32.toInt_toInt64, lg_cmp_ge, lg_cmp_le, lg_cmp_gt, lg_cmp_lt, lg_cmp_eq, Bool.false_eq_true, Bool.true_eq_false, reduceCtorEq, false_iff, true_iff, iff_true, iff_false, and_true, true_and, and_false, false_and, reduceIte, ite_true, ite_false, eq_self] at *)) <;> omega)), trivial⟩ rfl
              · refine wa_iconst (v := 0) (by decide) ?_
                refine wa_ireturn rfl rfl ?_
                exact ⟨_, rfl, Fs6, As6_85, As6_135, As6_136, As6_137, Ps6_WOK, trivial⟩
        · have mh9 := nle_mx h9
          refine wa_aload_n (i := 0) rfl rfl ?_
          refine wa_getr ck_12 fl_12_298 ly_84 rf_84_118 ?_
          refine wa_iload rfl ?_
          refine wa_iald ly_135 (by ((try simp only [vp_in_iff, Int32.lt_iff_toInt_lt, Int32.le_iff_toInt_le, ← Int32.toInt_inj, Int32.reduceToInt, n_1, n_2, n_8, Int32.toNatClampNeg, Int64.lt_iff_toInt_lt, Int64.le_iff_toInt_le, ← Int64.toInt_inj, Int64.reduceToInt, Int32.toInt_toInt64, lg_cmp_ge, lg_cmp_le, lg_cmp_gt, lg_cmp_lt, lg_cmp_eq, Bool.false_eq_true, Bool.true_eq_false, reduceCtorEq, false_iff, true_iff, iff_true, iff_false, and_true, true_and, and_false, false_and, reduceIte, ite_true, ite_false, eq_self] at *)) <;> omega) ?_
          refine wa_top (fun v37 hv37 => ?_)
          have rv37 : 0 ≤ v37.toInt ∧ v37.toInt ≤ 12 := by rw [← hv37]; exact ar_at As6_135 _
          clear hv37
          refine wa_if_ne o_X12_bound_151 (by decide) (fun h38 => ?_) (fun h38 => ?_)
          · refine wa_iinc (v := (1)) (lv' := fun y39 => [(6, .int y39), (0, .ref 84), (1, .int a0), (2, .long l2), (4, .long l4)]) (by decide) rfl (by decide) (fun _ => rfl) (fun y39 hy39 => ?_)
            replace hy39 := hy39.symm
            first | (refine i_addK hy39 ?_ ?_ (fun ty39 => ?_); (((try simp only [vp_in_iff, Int32.lt_iff_toInt_lt, Int32.le_iff_toInt_le, ← Int32.toInt_inj, Int32.reduceToInt, n_1, n_2, n_8, Int32.toNatClampNeg, Int64.lt_iff_toInt_lt, Int64.le_iff_toInt_le, ← Int64.toInt_inj, Int64.reduceToInt, Int32.toInt_toInt64, lg_cmp_ge, lg_cmp_le, lg_cmp_gt, lg_cmp_lt, lg_cmp_eq, Bool.false_eq_true, Bool.true_eq_false, reduceCtorEq, false_iff, true_iff, iff_true, iff_false, and_true, true_and, and_false, false_and, reduceIte, ite_true, ite_false, eq_self] at *)) <;> omega); (((try simp only [vp_in_iff, Int32.lt_iff_toInt_lt, Int32.le_iff_toInt_le, ← Int32.toInt_inj, Int32.reduceToInt, n_1, n_2, n_8, Int32.toNatClampNeg, Int64.lt_iff_toInt_lt, Int64.le_iff_toInt_le, ← Int64.toInt_inj, Int64.reduceToInt, Int32.toInt_toInt64, lg_cmp_ge, lg_cmp_le, lg_cmp_gt, lg_cmp_lt, lg_cmp_eq, Bool.false_eq_true, Bool.true_eq_false, reduceCtorEq, false_iff, true_iff, iff_true, iff_false, and_true, true_and, and_false, false_and, reduceIte, ite_true, ite_false, eq_self] at *)) <;> omega)) | skip
            clear hy39
            refine wa_goto o_X12_bound_22 (by decide) ?_
            refine wa_pick [1, 2, 3, 4, 0] rfl ?_
            exact ih7 _ (by ((try simp only [vp_in_iff, Int32.lt_iff_toInt_lt, Int32.le_iff_toInt_le, ← Int32.toInt_inj, Int32.reduceToInt, n_1, n_2, n_8, Int32.toNatClampNeg, Int64.lt_iff_toInt_lt, Int64.le_iff_toInt_le, ← Int64.toInt_inj, Int64.reduceToInt, Int32.toInt_toInt64, lg_cmp_ge, lg_cmp_le, lg_cmp_gt, lg_cmp_lt, lg_cmp_eq, Bool.false_eq_true, Bool.true_eq_false, reduceCtorEq, false_iff, true_iff, iff_true, iff_false, and_true, true_and, and_false, false_and, reduceIte, ite_true, ite_false, eq_self] at *)) <;> omega) _ _ _ _ ⟨Fs6, (khi8_0), (khi8_1), (khi8_2), (khi8_3), As6_85, As6_135, As6_136, As6_137, Ps6_WOK, (by ((try simp only [vp_in_iff, Int32.lt_iff_toInt_lt, Int32.le_iff_toInt_le, ← Int32.toInt_inj, Int32.reduceToInt, n_1, n_2, n_8, Int32.toNatClampNeg, Int64.lt_iff_toInt_lt, Int64.le_iff_toInt_le, ← Int64.toInt_inj, Int64.reduceToInt, Int32.toInt_toInt64, lg_cmp_ge, lg_cmp_le, lg_cmp_gt, lg_cmp_lt, lg_cmp_eq, Bool.false_eq_true, Bool.true_eq_false, reduceCtorEq, false_iff, true_iff, iff_true, iff_false, and_true, true_and, and_false, false_and, reduceIte, ite_true, ite_false, eq_self] at *)) <;> omega), (by rw [khi8_2]; first | assumption | (((try simp only [vp_in_iff, Int32.lt_iff_toInt_lt, Int32.le_iff_toInt_le, ← Int32.toInt_inj, Int32.reduceToInt, n_1, n_2, n_8, Int32.toNatClampNeg, Int64.lt_iff_toInt_lt, Int64.le_iff_toInt_le, ← Int64.toInt_inj, Int64.reduceToInt, Int32.toInt_toInt64, lg_cmp_ge, lg_cmp_le, lg_cmp_gt, lg_cmp_lt, lg_cmp_eq, Bool.false_eq_true, Bool.true_eq_false, reduceCtorEq, false_iff, true_iff, iff_true, iff_false, and_true, true_and, and_false, false_and, reduceIte, ite_true, ite_false, eq_self] at *)) <;> omega)), (by ((try simp only [vp_in_iff, Int32.lt_iff_toInt_lt, Int32.le_iff_toInt_le, ← Int32.toInt_inj, Int32.reduceToInt, n_1, n_2, n_8, Int32.toNatClampNeg, Int64.lt_iff_toInt_lt, Int64.le_iff_toInt_le, ← Int64.toInt_inj, Int64.reduceToInt, Int32.toInt_toInt64, lg_cmp_ge, lg_cmp_le, lg_cmp_gt, lg_cmp_lt, lg_cmp_eq, Bool.false_eq_true, Bool.true_eq_false, reduceCtorEq, false_iff, true_iff, iff_true, iff_false, and_true, true_and, and_false, false_and, reduceIte, ite_true, ite_false, eq_self] at *)) <;> omega), (by ((try simp only [vp_in_iff, Int32.lt_iff_toInt_lt, Int32.le_iff_toInt_le, ← Int32.toInt_inj, Int32.reduceToInt, n_1, n_2, n_8, Int32.toNatClampNeg, Int64.lt_iff_toInt_lt, Int64.le_iff_toInt_le, ← Int64.toInt_inj, Int64.reduceToInt, Int32.toInt_toInt64, lg_cmp_ge, lg_cmp_le, lg_cmp_gt, lg_cmp_lt, lg_cmp_eq, Bool.false_eq_true, Bool.true_eq_false, reduceCtorEq, false_iff, true_iff, iff_true, iff_false, and_true, true_and, and_false, false_and, reduceIte, ite_true, ite_false, eq_self] at *)) <;> omega), trivial⟩ rfl
          · refine wa_lload_n (i := 2) rfl rfl ?_
            refine wa_lconst (v := 1) (by decide) ?_
            refine wa_ladd ?_
            refine wa_topl (fun v40 hv40 => ?_)
            first | (refine l_addK hv40 ?_ ?_ (fun tv40 => ?_); (((try simp only [vp_in_iff, Int32.lt_iff_toInt_lt, Int32.le_iff_toInt_le, ← Int32.toInt_inj, Int32.reduceToInt, n_1, n_2, n_8, Int32.toNatClampNeg, Int64.lt_iff_toInt_lt, Int64.le_iff_toInt_le, ← Int64.toInt_inj, Int64.reduceToInt, Int32.toInt_toInt64, lg_cmp_ge, lg_cmp_le, lg_cmp_gt, lg_cmp_lt, lg_cmp_eq, Bool.false_eq_true, Bool.true_eq_false, reduceCtorEq, false_iff, true_iff, iff_true, iff_false, and_true, true_and, and_false, false_and, reduceIte, ite_true, ite_false, eq_self] at *)) <;> omega); (((try simp only [vp_in_iff, Int32.lt_iff_toInt_lt, Int32.le_iff_toInt_le, ← Int32.toInt_inj, Int32.reduceToInt, n_1, n_2, n_8, Int32.toNatClampNeg, Int64.lt_iff_toInt_lt, Int64.le_iff_toInt_le, ← Int64.toInt_inj, Int64.reduceToInt, Int32.toInt_toInt64, lg_cmp_ge, lg_cmp_le, lg_cmp_gt, lg_cmp_lt, lg_cmp_eq, Bool.false_eq_true, Bool.true_eq_false, reduceCtorEq, false_iff, true_iff, iff_true, iff_false, and_true, true_and, and_false, false_and, reduceIte, ite_true, ite_false, eq_self] at *)) <;> omega)) | skip
            clear hv40
            refine wa_lstore_nD (lv' := [(2, .long v40), (0, .ref 84), (1, .int a0), (4, .long l4), (6, .int l6)]) (i := 2) rfl (by decide) rfl ?_
            refine wa_lload rfl ?_
            refine wa_aload_n (i := 0) rfl rfl ?_
            refine wa_getr ck_12 fl_12_295 ly_84 rf_84_117 ?_
            refine wa_iload rfl ?_
            refine wa_iald ly_136 (by ((try simp only [vp_in_iff, Int32.lt_iff_toInt_lt, Int32.le_iff_toInt_le, ← Int32.toInt_inj, Int32.reduceToInt, n_1, n_2, n_8, Int32.toNatClampNeg, Int64.lt_iff_toInt_lt, Int64.le_iff_toInt_le, ← Int64.toInt_inj, Int64.reduceToInt, Int32.toInt_toInt64, lg_cmp_ge, lg_cmp_le, lg_cmp_gt, lg_cmp_lt, lg_cmp_eq, Bool.false_eq_true, Bool.true_eq_false, reduceCtorEq, false_iff, true_iff, iff_true, iff_false, and_true, true_and, and_false, false_and, reduceIte, ite_true, ite_false, eq_self] at *)) <;> omega) ?_
            refine wa_top (fun v41 hv41 => ?_)
            have rv41 : -99999 ≤ v41.toInt ∧ v41.toInt ≤ 99999 := by rw [← hv41]; exact ar_at As6_136 _
            clear hv41
            refine wa_if_ge o_X12_bound_70 (by decide) (fun h42 => ?_) (fun h42 => ?_)
            · refine wa_aload_n (i := 0) rfl rfl ?_
              refine wa_getr ck_12 fl_12_295 ly_84 rf_84_117 ?_
              refine wa_iload rfl ?_
              refine wa_iald ly_136 (by ((try simp only [vp_in_iff, Int32.lt_iff_toInt_lt, Int32.le_iff_toInt_le, ← Int32.toInt_inj, Int32.reduceToInt, n_1, n_2, n_8, Int32.toNatClampNeg, Int64.lt_iff_toInt_lt, Int64.le_iff_toInt_le, ← Int64.toInt_inj, Int64.reduceToInt, Int32.toInt_toInt64, lg_cmp_ge, lg_cmp_le, lg_cmp_gt, lg_cmp_lt, lg_cmp_eq, Bool.false_eq_true, Bool.true_eq_false, reduceCtorEq, false_iff, true_iff, iff_true, iff_false, and_true, true_and, and_false, false_and, reduceIte, ite_true, ite_false, eq_self] at *)) <;> omega) ?_
              refine wa_top (fun v43 hv43 => ?_)
              have rv43 : -99999 ≤ v43.toInt ∧ v43.toInt ≤ 99999 := by rw [← hv43]; exact ar_at As6_136 _
              clear hv43
              refine wa_i2l ?_
              refine wa_Sl (d9 := d - 1) [.long _, .long _] [] (sp_X12_max G (d := d - 1) (by omega) s6 _ _) (rfl) rfl rfl (zr (by omega)) mk_X12_max ml_12_1009 (Nat.le_of_ble_eq_true rfl) (fun x45 s44 hs44 => ?_)
              obtain ⟨zs44, cx45_1, cx45_2, cx45_3, -⟩ := pL hs44
              subst zs44
              refine wa_lstoreD (lv' := [(4, .long x45), (2, .long v40), (0, .ref 84), (1, .int a0), (6, .int l6)]) (by decide) rfl ?_
              refine wa_iconst (v := 0) (by decide) ?_
              refine wa_istoreD (lv' := [(7, .int 0), (4, .long x45), (2, .long v40), (0, .ref 84), (1, .int a0), (6, .int l6)]) (by decide) rfl ?_
              refine wa_pick [3, 4, 2, 1, 5, 0] rfl ?_
              have hi48 : ∀ (n9_86 : Nat) (l4 : Int64) (l7 : Int32) (s46 : St), ((Fm [85, 133, 135, 136, 137] [0, 119, 194] σ s46) ∧ (gi s46 84 33 = gi σ 84 33) ∧ (gi s46 84 32 = gi σ 84 32) ∧ (gi s46 84 119 = gi s4 84 119) ∧ (gi s46 84 194 = gi σ 84 194) ∧ (AR ap_85 s46 85) ∧ (AR ap_135 s46 135) ∧ (AR ap_136 s46 136) ∧ (AR ap_137 s46 137) ∧ (WOK s46) ∧ (0 ≤ l7.toInt) ∧ (1 ≤ l4.toInt ∧ l4.toInt ≤ 99999) ∧ (True)) → (2147483647 - l7.toInt).toNat = n9_86 → WA G M_X12_bound (ZM G M_X12_bound d (fun r σ' => ∃ x : Int32, r = some (.int x) ∧ Fm [85, 133, 135, 136, 137] [0, 119, 194] σ σ' ∧ AR ap_85 σ' 85 ∧ AR ap_135 σ' 135 ∧ AR ap_136 σ' 136 ∧ AR ap_137 σ' 137 ∧ WOK σ' ∧ True)) B_X12_bound_86 [(0, .ref 84), (1, .int a0), (2, .long v40), (4, .long l4), (6, .int l6), (7, .int l7)] [] s46 := by
                intro n9_86
                induction n9_86 using Nat.strongRecOn with
                | _ n9_86 ih47 =>
                  intro l4 l7 s46 i9 m9_86
                  obtain ⟨Fs46, khi48_0, khi48_1, khi48_2, khi48_3, As46_85, As46_135, As46_136, As46_137, Ps46_WOK, jhi48_0, jhi48_1, -⟩ := i9
                  have ul7 := Int32.toInt_lt l7
                  have wl7 := Int32.le_toInt l7
                  refine wa_iload rfl ?_
                  refine wa_iconst (v := 4) (by decide) ?_
                  refine wa_icmp_ge o_X12_bound_151 (by decide) (fun h49 => ?_) (fun h49 => ?_)
                  · refine wa_iinc (v := (1)) (lv' := fun y50 => [(6, .int y50), (0, .ref 84), (1, .int a0), (2, .long v40), (4, .long l4), (7, .int l7)]) (by decide) rfl (by decide) (fun _ => rfl) (fun y50 hy50 => ?_)
                    replace hy50 := hy50.symm
                    first | (refine i_addK hy50 ?_ ?_ (fun ty50 => ?_); (((try simp only [vp_in_iff, Int32.lt_iff_toInt_lt, Int32.le_iff_toInt_le, ← Int32.toInt_inj, Int32.reduceToInt, n_1, n_2, n_8, Int32.toNatClampNeg, Int64.lt_iff_toInt_lt, Int64.le_iff_toInt_le, ← Int64.toInt_inj, Int64.reduceToInt, Int32.toInt_toInt64, lg_cmp_ge, lg_cmp_le, lg_cmp_gt, lg_cmp_lt, lg_cmp_eq, Bool.false_eq_true, Bool.true_eq_false, reduceCtorEq, false_iff, true_iff, iff_true, iff_false, and_true, true_and, and_false, false_and, reduceIte, ite_true, ite_false, eq_self] at *)) <;> omega); (((try simp only [vp_in_iff, Int32.lt_iff_toInt_lt, Int32.le_iff_toInt_le, ← Int32.toInt_inj, Int32.reduceToInt, n_1, n_2, n_8, Int32.toNatClampNeg, Int64.lt_iff_toInt_lt, Int64.le_iff_toInt_le, ← Int64.toInt_inj, Int64.reduceToInt, Int32.toInt_toInt64, lg_cmp_ge, lg_cmp_le, lg_cmp_gt, lg_cmp_lt, lg_cmp_eq, Bool.false_eq_true, Bool.true_eq_false, reduceCtorEq, false_iff, true_iff, iff_true, iff_false, and_true, true_and, and_false, false_and, reduceIte, ite_true, ite_false, eq_self] at *)) <;> omega)) | skip
                    clear hy50
                    refine wa_goto o_X12_bound_22 (by decide) ?_
                    refine wa_pick [1, 2, 3, 4, 0] rfl ?_
                    exact ih7 _ (by ((try simp only [vp_in_iff, Int32.lt_iff_toInt_lt, Int32.le_iff_toInt_le, ← Int32.toInt_inj, Int32.reduceToInt, n_1, n_2, n_8, Int32.toNatClampNeg, Int64.lt_iff_toInt_lt, Int64.le_iff_toInt_le, ← Int64.toInt_inj, Int64.reduceToInt, Int32.toInt_toInt64, lg_cmp_ge, lg_cmp_le, lg_cmp_gt, lg_cmp_lt, lg_cmp_eq, Bool.false_eq_true, Bool.true_eq_false, reduceCtorEq, false_iff, true_iff, iff_true, iff_false, and_true, true_and, and_false, false_and, reduceIte, ite_true, ite_false, eq_self] at *)) <;> omega) _ _ _ _ ⟨Fs46, (khi48_0), (khi48_1), (khi48_2), (khi48_3), As46_85, As46_135, As46_136, As46_137, Ps46_WOK, (by ((try simp only [vp_in_iff, Int32.lt_iff_toInt_lt, Int32.le_iff_toInt_le, ← Int32.toInt_inj, Int32.reduceToInt, n_1, n_2, n_8, Int32.toNatClampNeg, Int64.lt_iff_toInt_lt, Int64.le_iff_toInt_le, ← Int64.toInt_inj, Int64.reduceToInt, Int32.toInt_toInt64, lg_cmp_ge, lg_cmp_le, lg_cmp_gt, lg_cmp_lt, lg_cmp_eq, Bool.false_eq_true, Bool.true_eq_false, reduceCtorEq, false_iff, true_iff, iff_true, iff_false, and_true, true_and, and_false, false_and, reduceIte, ite_true, ite_false, eq_self] at *)) <;> omega), (by rw [khi48_2]; first | assumption | (((try simp only [vp_in_iff, Int32.lt_iff_toInt_lt, Int32.le_iff_toInt_le, ← Int32.toInt_inj, Int32.reduceToInt, n_1, n_2, n_8, Int32.toNatClampNeg, Int64.lt_iff_toInt_lt, Int64.le_iff_toInt_le, ← Int64.toInt_inj, Int64.reduceToInt, Int32.toInt_toInt64, lg_cmp_ge, lg_cmp_le, lg_cmp_gt, lg_cmp_lt, lg_cmp_eq, Bool.false_eq_true, Bool.true_eq_false, reduceCtorEq, false_iff, true_iff, iff_true, iff_false, and_true, true_and, and_false, false_and, reduceIte, ite_true, ite_false, eq_self] at *)) <;> omega)), (by ((try simp only [vp_in_iff, Int32.lt_iff_toInt_lt, Int32.le_iff_toInt_le, ← Int32.toInt_inj, Int32.reduceToInt, n_1, n_2, n_8, Int32.toNatClampNeg, Int64.lt_iff_toInt_lt, Int64.le_iff_toInt_le, ← Int64.toInt_inj, Int64.reduceToInt, Int32.toInt_toInt64, lg_cmp_ge, lg_cmp_le, lg_cmp_gt, lg_cmp_lt, lg_cmp_eq, Bool.false_eq_true, Bool.true_eq_false, reduceCtorEq, false_iff, true_iff, iff_true, iff_false, and_true, true_and, and_false, false_and, reduceIte, ite_true, ite_false, eq_self] at *)) <;> omega), (by ((try simp only [vp_in_iff, Int32.lt_iff_toInt_lt, Int32.le_iff_toInt_le, ← Int32.toInt_inj, Int32.reduceToInt, n_1, n_2, n_8, Int32.toNatClampNeg, Int64.lt_iff_toInt_lt, Int64.le_iff_toInt_le, ← Int64.toInt_inj, Int64.reduceToInt, Int32.toInt_toInt64, lg_cmp_ge, lg_cmp_le, lg_cmp_gt, lg_cmp_lt, lg_cmp_eq, Bool.false_eq_true, Bool.true_eq_false, reduceCtorEq, false_iff, true_iff, iff_true, iff_false, and_true, true_and, and_false, false_and, reduceIte, ite_true, ite_false, eq_self] at *)) <;> omega), trivial⟩ rfl
                  · have mh49 := nle_mx h49
                    refine wa_lload rfl ?_
                    refine wa_aload_n (i := 0) rfl rfl ?_
                    refine wa_getr ck_12 fl_12_292 ly_84 rf_84_116 ?_
                    refine wa_iconst (v := 4) (by decide) ?_
                    refine wa_iload rfl ?_
                    refine wa_imul ?_
                    refine wa_top (fun v51 hv51 => ?_)
                    first | (refine i_mulK hv51 ?_ ?_ (fun tv51 => ?_); (((try simp only [vp_in_iff, Int32.lt_iff_toInt_lt, Int32.le_iff_toInt_le, ← Int32.toInt_inj, Int32.reduceToInt, n_1, n_2, n_8, Int32.toNatClampNeg, Int64.lt_iff_toInt_lt, Int64.le_iff_toInt_le, ← Int64.toInt_inj, Int64.reduceToInt, Int32.toInt_toInt64, lg_cmp_ge, lg_cmp_le, lg_cmp_gt, lg_cmp_lt, lg_cmp_eq, Bool.false_eq_true, Bool.true_eq_false, reduceCtorEq, false_iff, true_iff, iff_true, iff_false, and_true, true_and, and_false, false_and, reduceIte, ite_true, ite_false, eq_self] at *)) <;> omega); (((try simp only [vp_in_iff, Int32.lt_iff_toInt_lt, Int32.le_iff_toInt_le, ← Int32.toInt_inj, Int32.reduceToInt, n_1, n_2, n_8, Int32.toNatClampNeg, Int64.lt_iff_toInt_lt, Int64.le_iff_toInt_le, ← Int64.toInt_inj, Int64.reduceToInt, Int32.toInt_toInt64, lg_cmp_ge, lg_cmp_le, lg_cmp_gt, lg_cmp_lt, lg_cmp_eq, Bool.false_eq_true, Bool.true_eq_false, reduceCtorEq, false_iff, true_iff, iff_true, iff_false, and_true, true_and, and_false, false_and, reduceIte, ite_true, ite_false, eq_self] at *)) <;> omega)) | skip
                    clear hv51
                    refine wa_iload rfl ?_
                    refine wa_iadd ?_
                    refine wa_top (fun v52 hv52 => ?_)
                    first | (refine i_addK hv52 ?_ ?_ (fun tv52 => ?_); (((try simp only [vp_in_iff, Int32.lt_iff_toInt_lt, Int32.le_iff_toInt_le, ← Int32.toInt_inj, Int32.reduceToInt, n_1, n_2, n_8, Int32.toNatClampNeg, Int64.lt_iff_toInt_lt, Int64.le_iff_toInt_le, ← Int64.toInt_inj, Int64.reduceToInt, Int32.toInt_toInt64, lg_cmp_ge, lg_cmp_le, lg_cmp_gt, lg_cmp_lt, lg_cmp_eq, Bool.false_eq_true, Bool.true_eq_false, reduceCtorEq, false_iff, true_iff, iff_true, iff_false, and_true, true_and, and_false, false_and, reduceIte, ite_true, ite_false, eq_self] at *)) <;> omega); (((try simp only [vp_in_iff, Int32.lt_iff_toInt_lt, Int32.le_iff_toInt_le, ← Int32.toInt_inj, Int32.reduceToInt, n_1, n_2, n_8, Int32.toNatClampNeg, Int64.lt_iff_toInt_lt, Int64.le_iff_toInt_le, ← Int64.toInt_inj, Int64.reduceToInt, Int32.toInt_toInt64, lg_cmp_ge, lg_cmp_le, lg_cmp_gt, lg_cmp_lt, lg_cmp_eq, Bool.false_eq_true, Bool.true_eq_false, reduceCtorEq, false_iff, true_iff, iff_true, iff_false, and_true, true_and, and_false, false_and, reduceIte, ite_true, ite_false, eq_self] at *)) <;> omega)) | skip
                    clear hv52
                    refine wa_iald ly_137 (by ((try simp only [vp_in_iff, Int32.lt_iff_toInt_lt, Int32.le_iff_toInt_le, ← Int32.toInt_inj, Int32.reduceToInt, n_1, n_2, n_8, Int32.toNatClampNeg, Int64.lt_iff_toInt_lt, Int64.le_iff_toInt_le, ← Int64.toInt_inj, Int64.reduceToInt, Int32.toInt_toInt64, lg_cmp_ge, lg_cmp_le, lg_cmp_gt, lg_cmp_lt, lg_cmp_eq, Bool.false_eq_true, Bool.true_eq_false, reduceCtorEq, false_iff, true_iff, iff_true, iff_false, and_true, true_and, and_false, false_and, reduceIte, ite_true, ite_false, eq_self] at *)) <;> omega) ?_
                    refine wa_top (fun v53 hv53 => ?_)
                    have rv53 : -20 ≤ v53.toInt ∧ v53.toInt ≤ 20 := by rw [← hv53]; exact ar_at As46_137 _
                    clear hv53
                    refine wa_if_ge o_X12_bound_127 (by decide) (fun h54 => ?_) (fun h54 => ?_)
                    · refine wa_aload_n (i := 0) rfl rfl ?_
                      refine wa_getr ck_12 fl_12_292 ly_84 rf_84_116 ?_
                      refine wa_iconst (v := 4) (by decide) ?_
                      refine wa_iload rfl ?_
                      refine wa_imul ?_
                      refine wa_top (fun v55 hv55 => ?_)
                      first | (refine i_mulK hv55 ?_ ?_ (fun tv55 => ?_); (((try simp only [vp_in_iff, Int32.lt_iff_toInt_lt, Int32.le_iff_toInt_le, ← Int32.toInt_inj, Int32.reduceToInt, n_1, n_2, n_8, Int32.toNatClampNeg, Int64.lt_iff_toInt_lt, Int64.le_iff_toInt_le, ← Int64.toInt_inj, Int64.reduceToInt, Int32.toInt_toInt64, lg_cmp_ge, lg_cmp_le, lg_cmp_gt, lg_cmp_lt, lg_cmp_eq, Bool.false_eq_true, Bool.true_eq_false, reduceCtorEq, false_iff, true_iff, iff_true, iff_false, and_true, true_and, and_false, false_and, reduceIte, ite_true, ite_false, eq_self] at *)) <;> omega); (((try simp only [vp_in_iff, Int32.lt_iff_toInt_lt, Int32.le_iff_toInt_le, ← Int32.toInt_inj, Int32.reduceToInt, n_1, n_2, n_8, Int32.toNatClampNeg, Int64.lt_iff_toInt_lt, Int64.le_iff_toInt_le, ← Int64.toInt_inj, Int64.reduceToInt, Int32.toInt_toInt64, lg_cmp_ge, lg_cmp_le, lg_cmp_gt, lg_cmp_lt, lg_cmp_eq, Bool.false_eq_true, Bool.true_eq_false, reduceCtorEq, false_iff, true_iff, iff_true, iff_false, and_true, true_and, and_false, false_and, reduceIte, ite_true, ite_false, eq_self] at *)) <;> omega)) | skip
                      clear hv55
                      refine wa_iload rfl ?_
                      refine wa_iadd ?_
                      refine wa_top (fun v56 hv56 => ?_)
                      first | (refine i_addK hv56 ?_ ?_ (fun tv56 => ?_); (((try simp only [vp_in_iff, Int32.lt_iff_toInt_lt, Int32.le_iff_toInt_le, ← Int32.toInt_inj, Int32.reduceToInt, n_1, n_2, n_8, Int32.toNatClampNeg, Int64.lt_iff_toInt_lt, Int64.le_iff_toInt_le, ← Int64.toInt_inj, Int64.reduceToInt, Int32.toInt_toInt64, lg_cmp_ge, lg_cmp_le, lg_cmp_gt, lg_cmp_lt, lg_cmp_eq, Bool.false_eq_true, Bool.true_eq_false, reduceCtorEq, false_iff, true_iff, iff_true, iff_false, and_true, true_and, and_false, false_and, reduceIte, ite_true, ite_false, eq_self] at *)) <;> omega); (((try simp only [vp_in_iff, Int32.lt_iff_toInt_lt, Int32.le_iff_toInt_le, ← Int32.toInt_inj, Int32.reduceToInt, n_1, n_2, n_8, Int32.toNatClampNeg, Int64.lt_iff_toInt_lt, Int64.le_iff_toInt_le, ← Int64.toInt_inj, Int64.reduceToInt, Int32.toInt_toInt64, lg_cmp_ge, lg_cmp_le, lg_cmp_gt, lg_cmp_lt, lg_cmp_eq, Bool.false_eq_true, Bool.true_eq_false, reduceCtorEq, false_iff, true_iff, iff_true, iff_false, and_true, true_and, and_false, false_and, reduceIte, ite_true, ite_false, eq_self] at *)) <;> omega)) | skip
                      clear hv56
                      refine wa_iald ly_137 (by ((try simp only [vp_in_iff, Int32.lt_iff_toInt_lt, Int32.le_iff_toInt_le, ← Int32.toInt_inj, Int32.reduceToInt, n_1, n_2, n_8, Int32.toNatClampNeg, Int64.lt_iff_toInt_lt, Int64.le_iff_toInt_le, ← Int64.toInt_inj, Int64.reduceToInt, Int32.toInt_toInt64, lg_cmp_ge, lg_cmp_le, lg_cmp_gt, lg_cmp_lt, lg_cmp_eq, Bool.false_eq_true, Bool.true_eq_false, reduceCtorEq, false_iff, true_iff, iff_true, iff_false, and_true, true_and, and_false, false_and, reduceIte, ite_true, ite_false, eq_self] at *)) <;> omega) ?_
                      refine wa_top (fun v57 hv57 => ?_)
                      have rv57 : -20 ≤ v57.toInt ∧ v57.toInt ≤ 20 := by rw [← hv57]; exact ar_at As46_137 _
                      clear hv57
                      refine wa_i2l ?_
                      refine wa_Sl (d9 := d - 1) [.long _, .long _] [] (sp_X12_max G (d := d - 1) (by omega) s46 _ _) (rfl) rfl rfl (zr (by omega)) mk_X12_max ml_12_1009 (Nat.le_of_ble_eq_true rfl) (fun x59 s58 hs58 => ?_)
                      obtain ⟨zs58, cx59_1, cx59_2, cx59_3, -⟩ := pL hs58
                      subst zs58
                      refine wa_lstoreD (lv' := [(4, .long x59), (0, .ref 84), (1, .int a0), (2, .long v40), (6, .int l6), (7, .int l7)]) (by decide) rfl ?_
                      refine wa_iinc (v := (1)) (lv' := fun y60 => [(7, .int y60), (4, .long x59), (0, .ref 84), (1, .int a0), (2, .long v40), (6, .int l6)]) (by decide) rfl (by decide) (fun _ => rfl) (fun y60 hy60 => ?_)
                      replace hy60 := hy60.symm
                      first | (refine i_addK hy60 ?_ ?_ (fun ty60 => ?_); (((try simp only [vp_in_iff, Int32.lt_iff_toInt_lt, Int32.le_iff_toInt_le, ← Int32.toInt_inj, Int32.reduceToInt, n_1, n_2, n_8, Int32.toNatClampNeg, Int64.lt_iff_toInt_lt, Int64.le_iff_toInt_le, ← Int64.toInt_inj, Int64.reduceToInt, Int32.toInt_toInt64, lg_cmp_ge, lg_cmp_le, lg_cmp_gt, lg_cmp_lt, lg_cmp_eq, Bool.false_eq_true, Bool.true_eq_false, reduceCtorEq, false_iff, true_iff, iff_true, iff_false, and_true, true_and, and_false, false_and, reduceIte, ite_true, ite_false, eq_self] at *)) <;> omega); (((try simp only [vp_in_iff, Int32.lt_iff_toInt_lt, Int32.le_iff_toInt_le, ← Int32.toInt_inj, Int32.reduceToInt, n_1, n_2, n_8, Int32.toNatClampNeg, Int64.lt_iff_toInt_lt, Int64.le_iff_toInt_le, ← Int64.toInt_inj, Int64.reduceToInt, Int32.toInt_toInt64, lg_cmp_ge, lg_cmp_le, lg_cmp_gt, lg_cmp_lt, lg_cmp_eq, Bool.false_eq_true, Bool.true_eq_false, reduceCtorEq, false_iff, true_iff, iff_true, iff_false, and_true, true_and, and_false, false_and, reduceIte, ite_true, ite_false, eq_self] at *)) <;> omega)) | skip
                      clear hy60
                      refine wa_goto o_X12_bound_86 (by decide) ?_
                      refine wa_pick [2, 3, 4, 1, 5, 0] rfl ?_
                      exact ih47 _ (by ((try simp only [vp_in_iff, Int32.lt_iff_toInt_lt, Int32.le_iff_toInt_le, ← Int32.toInt_inj, Int32.reduceToInt, n_1, n_2, n_8, Int32.toNatClampNeg, Int64.lt_iff_toInt_lt, Int64.le_iff_toInt_le, ← Int64.toInt_inj, Int64.reduceToInt, Int32.toInt_toInt64, lg_cmp_ge, lg_cmp_le, lg_cmp_gt, lg_cmp_lt, lg_cmp_eq, Bool.false_eq_true, Bool.true_eq_false, reduceCtorEq, false_iff, true_iff, iff_true, iff_false, and_true, true_and, and_false, false_and, reduceIte, ite_true, ite_false, eq_self] at *)) <;> omega) _ _ _ ⟨Fs46, (khi48_0), (khi48_1), (khi48_2), (khi48_3), As46_85, As46_135, As46_136, As46_137, Ps46_WOK, (by ((try simp only [vp_in_iff, Int32.lt_iff_toInt_lt, Int32.le_iff_toInt_le, ← Int32.toInt_inj, Int32.reduceToInt, n_1, n_2, n_8, Int32.toNatClampNeg, Int64.lt_iff_toInt_lt, Int64.le_iff_toInt_le, ← Int64.toInt_inj, Int64.reduceToInt, Int32.toInt_toInt64, lg_cmp_ge, lg_cmp_le, lg_cmp_gt, lg_cmp_lt, lg_cmp_eq, Bool.false_eq_true, Bool.true_eq_false, reduceCtorEq, false_iff, true_iff, iff_true, iff_false, and_true, true_and, and_false, false_and, reduceIte, ite_true, ite_false, eq_self] at *)) <;> omega), (by ((try simp only [vp_in_iff, Int32.lt_iff_toInt_lt, Int32.le_iff_toInt_le, ← Int32.toInt_inj, Int32.reduceToInt, n_1, n_2, n_8, Int32.toNatClampNeg, Int64.lt_iff_toInt_lt, Int64.le_iff_toInt_le, ← Int64.toInt_inj, Int64.reduceToInt, Int32.toInt_toInt64, lg_cmp_ge, lg_cmp_le, lg_cmp_gt, lg_cmp_lt, lg_cmp_eq, Bool.false_eq_true, Bool.true_eq_false, reduceCtorEq, false_iff, true_iff, iff_true, iff_false, and_true, true_and, and_false, false_and, reduceIte, ite_true, ite_false, eq_self] at *)) <;> omega), trivial⟩ rfl
                    · refine wa_iconst (v := 0) (by decide) ?_
                      refine wa_aload_n (i := 0) rfl rfl ?_
                      refine wa_getr ck_12 fl_12_292 ly_84 rf_84_116 ?_
                      refine wa_iconst (v := 4) (by decide) ?_
                      refine wa_iload rfl ?_
                      refine wa_imul ?_
                      refine wa_top (fun v61 hv61 => ?_)
                      first | (refine i_mulK hv61 ?_ ?_ (fun tv61 => ?_); (((try simp only [vp_in_iff, Int32.lt_iff_toInt_lt, Int32.le_iff_toInt_le, ← Int32.toInt_inj, Int32.reduceToInt, n_1, n_2, n_8, Int32.toNatClampNeg, Int64.lt_iff_toInt_lt, Int64.le_iff_toInt_le, ← Int64.toInt_inj, Int64.reduceToInt, Int32.toInt_toInt64, lg_cmp_ge, lg_cmp_le, lg_cmp_gt, lg_cmp_lt, lg_cmp_eq, Bool.false_eq_true, Bool.true_eq_false, reduceCtorEq, false_iff, true_iff, iff_true, iff_false, and_true, true_and, and_false, false_and, reduceIte, ite_true, ite_false, eq_self] at *)) <;> omega); (((try simp only [vp_in_iff, Int32.lt_iff_toInt_lt, Int32.le_iff_toInt_le, ← Int32.toInt_inj, Int32.reduceToInt, n_1, n_2, n_8, Int32.toNatClampNeg, Int64.lt_iff_toInt_lt, Int64.le_iff_toInt_le, ← Int64.toInt_inj, Int64.reduceToInt, Int32.toInt_toInt64, lg_cmp_ge, lg_cmp_le, lg_cmp_gt, lg_cmp_lt, lg_cmp_eq, Bool.false_eq_true, Bool.true_eq_false, reduceCtorEq, false_iff, true_iff, iff_true, iff_false, and_true, true_and, and_false, false_and, reduceIte, ite_true, ite_false, eq_self] at *)) <;> omega)) | skip
                      clear hv61
                      refine wa_iload rfl ?_
                      refine wa_iadd ?_
                      refine wa_top (fun v62 hv62 => ?_)
                      first | (refine i_addK hv62 ?_ ?_ (fun tv62 => ?_); (((try simp only [vp_in_iff, Int32.lt_iff_toInt_lt, Int32.le_iff_toInt_le, ← Int32.toInt_inj, Int32.reduceToInt, n_1, n_2, n_8, Int32.toNatClampNeg, Int64.lt_iff_toInt_lt, Int64.le_iff_toInt_le, ← Int64.toInt_inj, Int64.reduceToInt, Int32.toInt_toInt64, lg_cmp_ge, lg_cmp_le, lg_cmp_gt, lg_cmp_lt, lg_cmp_eq, Bool.false_eq_true, Bool.true_eq_false, reduceCtorEq, false_iff, true_iff, iff_true, iff_false, and_true, true_and, and_false, false_and, reduceIte, ite_true, ite_false, eq_self] at *)) <;> omega); (((try simp only [vp_in_iff, Int32.lt_iff_toInt_lt, Int32.le_iff_toInt_le, ← Int32.toInt_inj, Int32.reduceToInt, n_1, n_2, n_8, Int32.toNatClampNeg, Int64.lt_iff_toInt_lt, Int64.le_iff_toInt_le, ← Int64.toInt_inj, Int64.reduceToInt, Int32.toInt_toInt64, lg_cmp_ge, lg_cmp_le, lg_cmp_gt, lg_cmp_lt, lg_cmp_eq, Bool.false_eq_true, Bool.true_eq_false, reduceCtorEq, false_iff, true_iff, iff_true, iff_false, and_true, true_and, and_false, false_and, reduceIte, ite_true, ite_false, eq_self] at *)) <;> omega)) | skip
                      clear hv62
                      refine wa_iald ly_137 (by ((try simp only [vp_in_iff, Int32.lt_iff_toInt_lt, Int32.le_iff_toInt_le, ← Int32.toInt_inj, Int32.reduceToInt, n_1, n_2, n_8, Int32.toNatClampNeg, Int64.lt_iff_toInt_lt, Int64.le_iff_toInt_le, ← Int64.toInt_inj, Int64.reduceToInt, Int32.toInt_toInt64, lg_cmp_ge, lg_cmp_le, lg_cmp_gt, lg_cmp_lt, lg_cmp_eq, Bool.false_eq_true, Bool.true_eq_false, reduceCtorEq, false_iff, true_iff, iff_true, iff_false, and_true, true_and, and_false, false_and, reduceIte, ite_true, ite_false, eq_self] at *)) <;> omega) ?_
                      refine wa_top (fun v63 hv63 => ?_)
                      have rv63 : -20 ≤ v63.toInt ∧ v63.toInt ≤ 20 := by rw [← hv63]; exact ar_at As46_137 _
                      clear hv63
                      refine wa_isub ?_
                      refine wa_top (fun v64 hv64 => ?_)
                      first | (refine i_subK hv64 ?_ ?_ (fun tv64 => ?_); (((try simp only [vp_in_iff, Int32.lt_iff_toInt_lt, Int32.le_iff_toInt_le, ← Int32.toInt_inj, Int32.reduceToInt, n_1, n_2, n_8, Int32.toNatClampNeg, Int64.lt_iff_toInt_lt, Int64.le_iff_toInt_le, ← Int64.toInt_inj, Int64.reduceToInt, Int32.toInt_toInt64, lg_cmp_ge, lg_cmp_le, lg_cmp_gt, lg_cmp_lt, lg_cmp_eq, Bool.false_eq_true, Bool.true_eq_false, reduceCtorEq, false_iff, true_iff, iff_true, iff_false, and_true, true_and, and_false, false_and, reduceIte, ite_true, ite_false, eq_self] at *)) <;> omega); (((try simp only [vp_in_iff, Int32.lt_iff_toInt_lt, Int32.le_iff_toInt_le, ← Int32.toInt_inj, Int32.reduceToInt, n_1, n_2, n_8, Int32.toNatClampNeg, Int64.lt_iff_toInt_lt, Int64.le_iff_toInt_le, ← Int64.toInt_inj, Int64.reduceToInt, Int32.toInt_toInt64, lg_cmp_ge, lg_cmp_le, lg_cmp_gt, lg_cmp_lt, lg_cmp_eq, Bool.false_eq_true, Bool.true_eq_false, reduceCtorEq, false_iff, true_iff, iff_true, iff_false, and_true, true_and, and_false, false_and, reduceIte, ite_true, ite_false, eq_self] at *)) <;> omega)) | skip
                      clear hv64
                      refine wa_i2l ?_
                      refine wa_goto o_X12_bound_140 (by decide) ?_
                      refine wa_Sl (d9 := d - 1) [.long _, .long _] [] (sp_X12_max G (d := d - 1) (by omega) s46 _ _) (rfl) rfl rfl (zr (by omega)) mk_X12_max ml_12_1009 (Nat.le_of_ble_eq_true rfl) (fun x66 s65 hs65 => ?_)
                      obtain ⟨zs65, cx66_1, cx66_2, cx66_3, -⟩ := pL hs65
                      subst zs65
                      refine wa_lstoreD (lv' := [(4, .long x66), (0, .ref 84), (1, .int a0), (2, .long v40), (6, .int l6), (7, .int l7)]) (by decide) rfl ?_
                      refine wa_iinc (v := (1)) (lv' := fun y67 => [(7, .int y67), (4, .long x66), (0, .ref 84), (1, .int a0), (2, .long v40), (6, .int l6)]) (by decide) rfl (by decide) (fun _ => rfl) (fun y67 hy67 => ?_)
                      replace hy67 := hy67.symm
                      first | (refine i_addK hy67 ?_ ?_ (fun ty67 => ?_); (((try simp only [vp_in_iff, Int32.lt_iff_toInt_lt, Int32.le_iff_toInt_le, ← Int32.toInt_inj, Int32.reduceToInt, n_1, n_2, n_8, Int32.toNatClampNeg, Int64.lt_iff_toInt_lt, Int64.le_iff_toInt_le, ← Int64.toInt_inj, Int64.reduceToInt, Int32.toInt_toInt64, lg_cmp_ge, lg_cmp_le, lg_cmp_gt, lg_cmp_lt, lg_cmp_eq, Bool.false_eq_true, Bool.true_eq_false, reduceCtorEq, false_iff, true_iff, iff_true, iff_false, and_true, true_and, and_false, false_and, reduceIte, ite_true, ite_false, eq_self] at *)) <;> omega); (((try simp only [vp_in_iff, Int32.lt_iff_toInt_lt, Int32.le_iff_toInt_le, ← Int32.toInt_inj, Int32.reduceToInt, n_1, n_2, n_8, Int32.toNatClampNeg, Int64.lt_iff_toInt_lt, Int64.le_iff_toInt_le, ← Int64.toInt_inj, Int64.reduceToInt, Int32.toInt_toInt64, lg_cmp_ge, lg_cmp_le, lg_cmp_gt, lg_cmp_lt, lg_cmp_eq, Bool.false_eq_true, Bool.true_eq_false, reduceCtorEq, false_iff, true_iff, iff_true, iff_false, and_true, true_and, and_false, false_and, reduceIte, ite_true, ite_false, eq_self] at *)) <;> omega)) | skip
                      clear hy67
                      refine wa_goto o_X12_bound_86 (by decide) ?_
                      refine wa_pick [2, 3, 4, 1, 5, 0] rfl ?_
                      exact ih47 _ (by ((try simp only [vp_in_iff, Int32.lt_iff_toInt_lt, Int32.le_iff_toInt_le, ← Int32.toInt_inj, Int32.reduceToInt, n_1, n_2, n_8, Int32.toNatClampNeg, Int64.lt_iff_toInt_lt, Int64.le_iff_toInt_le, ← Int64.toInt_inj, Int64.reduceToInt, Int32.toInt_toInt64, lg_cmp_ge, lg_cmp_le, lg_cmp_gt, lg_cmp_lt, lg_cmp_eq, Bool.false_eq_true, Bool.true_eq_false, reduceCtorEq, false_iff, true_iff, iff_true, iff_false, and_true, true_and, and_false, false_and, reduceIte, ite_true, ite_false, eq_self] at *)) <;> omega) _ _ _ ⟨Fs46, (khi48_0), (khi48_1), (khi48_2), (khi48_3), As46_85, As46_135, As46_136, As46_137, Ps46_WOK, (by ((try simp only [vp_in_iff, Int32.lt_iff_toInt_lt, Int32.le_iff_toInt_le, ← Int32.toInt_inj, Int32.reduceToInt, n_1, n_2, n_8, Int32.toNatClampNeg, Int64.lt_iff_toInt_lt, Int64.le_iff_toInt_le, ← Int64.toInt_inj, Int64.reduceToInt, Int32.toInt_toInt64, lg_cmp_ge, lg_cmp_le, lg_cmp_gt, lg_cmp_lt, lg_cmp_eq, Bool.false_eq_true, Bool.true_eq_false, reduceCtorEq, false_iff, true_iff, iff_true, iff_false, and_true, true_and, and_false, false_and, reduceIte, ite_true, ite_false, eq_self] at *)) <;> omega), (by ((try simp only [vp_in_iff, Int32.lt_iff_toInt_lt, Int32.le_iff_toInt_le, ← Int32.toInt_inj, Int32.reduceToInt, n_1, n_2, n_8, Int32.toNatClampNeg, Int64.lt_iff_toInt_lt, Int64.le_iff_toInt_le, ← Int64.toInt_inj, Int64.reduceToInt, Int32.toInt_toInt64, lg_cmp_ge, lg_cmp_le, lg_cmp_gt, lg_cmp_lt, lg_cmp_eq, Bool.false_eq_true, Bool.true_eq_false, reduceCtorEq, false_iff, true_iff, iff_true, iff_false, and_true, true_and, and_false, false_and, reduceIte, ite_true, ite_false, eq_self] at *)) <;> omega), trivial⟩ rfl
              exact hi48 _ _ _ _ ⟨Fs6, (khi8_0), (khi8_1), (khi8_2), (khi8_3), As6_85, As6_135, As6_136, As6_137, Ps6_WOK, (by ((try simp only [vp_in_iff, Int32.lt_iff_toInt_lt, Int32.le_iff_toInt_le, ← Int32.toInt_inj, Int32.reduceToInt, n_1, n_2, n_8, Int32.toNatClampNeg, Int64.lt_iff_toInt_lt, Int64.le_iff_toInt_le, ← Int64.toInt_inj, Int64.reduceToInt, Int32.toInt_toInt64, lg_cmp_ge, lg_cmp_le, lg_cmp_gt, lg_cmp_lt, lg_cmp_eq, Bool.false_eq_true, Bool.true_eq_false, reduceCtorEq, false_iff, true_iff, iff_true, iff_false, and_true, true_and, and_false, false_and, reduceIte, ite_true, ite_false, eq_self] at *)) <;> omega), (by ((try simp only [vp_in_iff, Int32.lt_iff_toInt_lt, Int32.le_iff_toInt_le, ← Int32.toInt_inj, Int32.reduceToInt, n_1, n_2, n_8, Int32.toNatClampNeg, Int64.lt_iff_toInt_lt, Int64.le_iff_toInt_le, ← Int64.toInt_inj, Int64.reduceToInt, Int32.toInt_toInt64, lg_cmp_ge, lg_cmp_le, lg_cmp_gt, lg_cmp_lt, lg_cmp_eq, Bool.false_eq_true, Bool.true_eq_false, reduceCtorEq, false_iff, true_iff, iff_true, iff_false, and_true, true_and, and_false, false_and, reduceIte, ite_true, ite_false, eq_self] at *)) <;> omega), trivial⟩ rfl
            · refine wa_iconst (v := 0) (by decide) ?_
              refine wa_aload_n (i := 0) rfl rfl ?_
              refine wa_getr ck_12 fl_12_295 ly_84 rf_84_117 ?_
              refine wa_iload rfl ?_
              refine wa_iald ly_136 (by ((try simp only [vp_in_iff, Int32.lt_iff_toInt_lt, Int32.le_iff_toInt_le, ← Int32.toInt_inj, Int32.reduceToInt, n_1, n_2, n_8, Int32.toNatClampNeg, Int64.lt_iff_toInt_lt, Int64.le_iff_toInt_le, ← Int64.toInt_inj, Int64.reduceToInt, Int32.toInt_toInt64, lg_cmp_ge, lg_cmp_le, lg_cmp_gt, lg_cmp_lt, lg_cmp_eq, Bool.false_eq_true, Bool.true_eq_false, reduceCtorEq, false_iff, true_iff, iff_true, iff_false, and_true, true_and, and_false, false_and, reduceIte, ite_true, ite_false, eq_self] at *)) <;> omega) ?_
              refine wa_top (fun v68 hv68 => ?_)
              have rv68 : -99999 ≤ v68.toInt ∧ v68.toInt ≤ 99999 := by rw [← hv68]; exact ar_at As6_136 _
              clear hv68
              refine wa_isub ?_
              refine wa_top (fun v69 hv69 => ?_)
              first | (refine i_subK hv69 ?_ ?_ (fun tv69 => ?_); (((try simp only [vp_in_iff, Int32.lt_iff_toInt_lt, Int32.le_iff_toInt_le, ← Int32.toInt_inj, Int32.reduceToInt, n_1, n_2, n_8, Int32.toNatClampNeg, Int64.lt_iff_toInt_lt, Int64.le_iff_toInt_le, ← Int64.toInt_inj, Int64.reduceToInt, Int32.toInt_toInt64, lg_cmp_ge, lg_cmp_le, lg_cmp_gt, lg_cmp_lt, lg_cmp_eq, Bool.false_eq_true, Bool.true_eq_false, reduceCtorEq, false_iff, true_iff, iff_true, iff_false, and_true, true_and, and_false, false_and, reduceIte, ite_true, ite_false, eq_self] at *)) <;> omega); (((try simp only [vp_in_iff, Int32.lt_iff_toInt_lt, Int32.le_iff_toInt_le, ← Int32.toInt_inj, Int32.reduceToInt, n_1, n_2, n_8, Int32.toNatClampNeg, Int64.lt_iff_toInt_lt, Int64.le_iff_toInt_le, ← Int64.toInt_inj, Int64.reduceToInt, Int32.toInt_toInt64, lg_cmp_ge, lg_cmp_le, lg_cmp_gt, lg_cmp_lt, lg_cmp_eq, Bool.false_eq_true, Bool.true_eq_false, reduceCtorEq, false_iff, true_iff, iff_true, iff_false, and_true, true_and, and_false, false_and, reduceIte, ite_true, ite_false, eq_self] at *)) <;> omega)) | skip
              clear hv69
              refine wa_i2l ?_
              refine wa_goto o_X12_bound_78 (by decide) ?_
              refine wa_Sl (d9 := d - 1) [.long _, .long _] [] (sp_X12_max G (d := d - 1) (by omega) s6 _ _) (rfl) rfl rfl (zr (by omega)) mk_X12_max ml_12_1009 (Nat.le_of_ble_eq_true rfl) (fun x71 s70 hs70 => ?_)
              obtain ⟨zs70, cx71_1, cx71_2, cx71_3, -⟩ := pL hs70
              subst zs70
              refine wa_lstoreD (lv' := [(4, .long x71), (2, .long v40), (0, .ref 84), (1, .int a0), (6, .int l6)]) (by decide) rfl ?_
              refine wa_iconst (v := 0) (by decide) ?_
              refine wa_istoreD (lv' := [(7, .int 0), (4, .long x71), (2, .long v40), (0, .ref 84), (1, .int a0), (6, .int l6)]) (by decide) rfl ?_
              refine wa_pick [3, 4, 2, 1, 5, 0] rfl ?_
              have hi74 : ∀ (n9_86 : Nat) (l4 : Int64) (l7 : Int32) (s72 : St), ((Fm [85, 133, 135, 136, 137] [0, 119, 194] σ s72) ∧ (gi s72 84 33 = gi σ 84 33) ∧ (gi s72 84 32 = gi σ 84 32) ∧ (gi s72 84 119 = gi s4 84 119) ∧ (gi s72 84 194 = gi σ 84 194) ∧ (AR ap_85 s72 85) ∧ (AR ap_135 s72 135) ∧ (AR ap_136 s72 136) ∧ (AR ap_137 s72 137) ∧ (WOK s72) ∧ (0 ≤ l7.toInt) ∧ (1 ≤ l4.toInt ∧ l4.toInt ≤ 99999) ∧ (True)) → (2147483647 - l7.toInt).toNat = n9_86 → WA G M_X12_bound (ZM G M_X12_bound d (fun r σ' => ∃ x : Int32, r = some (.int x) ∧ Fm [85, 133, 135, 136, 137] [0, 119, 194] σ σ' ∧ AR ap_85 σ' 85 ∧ AR ap_135 σ' 135 ∧ AR ap_136 σ' 136 ∧ AR ap_137 σ' 137 ∧ WOK σ' ∧ True)) B_X12_bound_86 [(0, .ref 84), (1, .int a0), (2, .long v40), (4, .long l4), (6, .int l6), (7, .int l7)] [] s72 := by
                intro n9_86
                induction n9_86 using Nat.strongRecOn with
                | _ n9_86 ih73 =>
                  intro l4 l7 s72 i9 m9_86
                  obtain ⟨Fs72, khi74_0, khi74_1, khi74_2, khi74_3, As72_85, As72_135, As72_136, As72_137, Ps72_WOK, jhi74_0, jhi74_1, -⟩ := i9
                  have ul7 := Int32.toInt_lt l7
                  have wl7 := Int32.le_toInt l7
                  refine wa_iload rfl ?_
                  refine wa_iconst (v := 4) (by decide) ?_
                  refine wa_icmp_ge o_X12_bound_151 (by decide) (fun h75 => ?_) (fun h75 => ?_)
                  · refine wa_iinc (v := (1)) (lv' := fun y76 => [(6, .int y76), (0, .ref 84), (1, .int a0), (2, .long v40), (4, .long l4), (7, .int l7)]) (by decide) rfl (by decide) (fun _ => rfl) (fun y76 hy76 => ?_)
                    replace hy76 := hy76.symm
                    first | (refine i_addK hy76 ?_ ?_ (fun ty76 => ?_); (((try simp only [vp_in_iff, Int32.lt_iff_toInt_lt, Int32.le_iff_toInt_le, ← Int32.toInt_inj, Int32.reduceToInt, n_1, n_2, n_8, Int32.toNatClampNeg, Int64.lt_iff_toInt_lt, Int64.le_iff_toInt_le, ← Int64.toInt_inj, Int64.reduceToInt, Int32.toInt_toInt64, lg_cmp_ge, lg_cmp_le, lg_cmp_gt, lg_cmp_lt, lg_cmp_eq, Bool.false_eq_true, Bool.true_eq_false, reduceCtorEq, false_iff, true_iff, iff_true, iff_false, and_true, true_and, and_false, false_and, reduceIte, ite_true, ite_false, eq_self] at *)) <;> omega); (((try simp only [vp_in_iff, Int32.lt_iff_toInt_lt, Int32.le_iff_toInt_le, ← Int32.toInt_inj, Int32.reduceToInt, n_1, n_2, n_8, Int32.toNatClampNeg, Int64.lt_iff_toInt_lt, Int64.le_iff_toInt_le, ← Int64.toInt_inj, Int64.reduceToInt, Int32.toInt_toInt64, lg_cmp_ge, lg_cmp_le, lg_cmp_gt, lg_cmp_lt, lg_cmp_eq, Bool.false_eq_true, Bool.true_eq_false, reduceCtorEq, false_iff, true_iff, iff_true, iff_false, and_true, true_and, and_false, false_and, reduceIte, ite_true, ite_false, eq_self] at *)) <;> omega)) | skip
                    clear hy76
                    refine wa_goto o_X12_bound_22 (by decide) ?_
                    refine wa_pick [1, 2, 3, 4, 0] rfl ?_
                    exact ih7 _ (by ((try simp only [vp_in_iff, Int32.lt_iff_toInt_lt, Int32.le_iff_toInt_le, ← Int32.toInt_inj, Int32.reduceToInt, n_1, n_2, n_8, Int32.toNatClampNeg, Int64.lt_iff_toInt_lt, Int64.le_iff_toInt_le, ← Int64.toInt_inj, Int64.reduceToInt, Int32.toInt_toInt64, lg_cmp_ge, lg_cmp_le, lg_cmp_gt, lg_cmp_lt, lg_cmp_eq, Bool.false_eq_true, Bool.true_eq_false, reduceCtorEq, false_iff, true_iff, iff_true, iff_false, and_true, true_and, and_false, false_and, reduceIte, ite_true, ite_false, eq_self] at *)) <;> omega) _ _ _ _ ⟨Fs72, (khi74_0), (khi74_1), (khi74_2), (khi74_3), As72_85, As72_135, As72_136, As72_137, Ps72_WOK, (by ((try simp only [vp_in_iff, Int32.lt_iff_toInt_lt, Int32.le_iff_toInt_le, ← Int32.toInt_inj, Int32.reduceToInt, n_1, n_2, n_8, Int32.toNatClampNeg, Int64.lt_iff_toInt_lt, Int64.le_iff_toInt_le, ← Int64.toInt_inj, Int64.reduceToInt, Int32.toInt_toInt64, lg_cmp_ge, lg_cmp_le, lg_cmp_gt, lg_cmp_lt, lg_cmp_eq, Bool.false_eq_true, Bool.true_eq_false, reduceCtorEq, false_iff, true_iff, iff_true, iff_false, and_true, true_and, and_false, false_and, reduceIte, ite_true, ite_false, eq_self] at *)) <;> omega), (by rw [khi74_2]; first | assumption | (((try simp only [vp_in_iff, Int32.lt_iff_toInt_lt, Int32.le_iff_toInt_le, ← Int32.toInt_inj, Int32.reduceToInt, n_1, n_2, n_8, Int32.toNatClampNeg, Int64.lt_iff_toInt_lt, Int64.le_iff_toInt_le, ← Int64.toInt_inj, Int64.reduceToInt, Int32.toInt_toInt64, lg_cmp_ge, lg_cmp_le, lg_cmp_gt, lg_cmp_lt, lg_cmp_eq, Bool.false_eq_true, Bool.true_eq_false, reduceCtorEq, false_iff, true_iff, iff_true, iff_false, and_true, true_and, and_false, false_and, reduceIte, ite_true, ite_false, eq_self] at *)) <;> omega)), (by ((try simp only [vp_in_iff, Int32.lt_iff_toInt_lt, Int32.le_iff_toInt_le, ← Int32.toInt_inj, Int32.reduceToInt, n_1, n_2, n_8, Int32.toNatClampNeg, Int64.lt_iff_toInt_lt, Int64.le_iff_toInt_le, ← Int64.toInt_inj, Int64.reduceToInt, Int32.toInt_toInt64, lg_cmp_ge, lg_cmp_le, lg_cmp_gt, lg_cmp_lt, lg_cmp_eq, Bool.false_eq_true, Bool.true_eq_false, reduceCtorEq, false_iff, true_iff, iff_true, iff_false, and_true, true_and, and_false, false_and, reduceIte, ite_true, ite_false, eq_self] at *)) <;> omega), (by ((try simp only [vp_in_iff, Int32.lt_iff_toInt_lt, Int32.le_iff_toInt_le, ← Int32.toInt_inj, Int32.reduceToInt, n_1, n_2, n_8, Int32.toNatClampNeg, Int64.lt_iff_toInt_lt, Int64.le_iff_toInt_le, ← Int64.toInt_inj, Int64.reduceToInt, Int32.toInt_toInt64, lg_cmp_ge, lg_cmp_le, lg_cmp_gt, lg_cmp_lt, lg_cmp_eq, Bool.false_eq_true, Bool.true_eq_false, reduceCtorEq, false_iff, true_iff, iff_true, iff_false, and_true, true_and, and_false, false_and, reduceIte, ite_true, ite_false, eq_self] at *)) <;> omega), trivial⟩ rfl
                  · have mh75 := nle_mx h75
                    refine wa_lload rfl ?_
                    refine wa_aload_n (i := 0) rfl rfl ?_
                    refine wa_getr ck_12 fl_12_292 ly_84 rf_84_116 ?_
                    refine wa_iconst (v := 4) (by decide) ?_
                    refine wa_iload rfl ?_
                    refine wa_imul ?_
                    refine wa_top (fun v77 hv77 => ?_)
                    first | (refine i_mulK hv77 ?_ ?_ (fun tv77 => ?_); (((try simp only [vp_in_iff, Int32.lt_iff_toInt_lt, Int32.le_iff_toInt_le, ← Int32.toInt_inj, Int32.reduceToInt, n_1, n_2, n_8, Int32.toNatClampNeg, Int64.lt_iff_toInt_lt, Int64.le_iff_toInt_le, ← Int64.toInt_inj, Int64.reduceToInt, Int32.toInt_toInt64, lg_cmp_ge, lg_cmp_le, lg_cmp_gt, lg_cmp_lt, lg_cmp_eq, Bool.false_eq_true, Bool.true_eq_false, reduceCtorEq, false_iff, true_iff, iff_true, iff_false, and_true, true_and, and_false, false_and, reduceIte, ite_true, ite_false, eq_self] at *)) <;> omega); (((try simp only [vp_in_iff, Int32.lt_iff_toInt_lt, Int32.le_iff_toInt_le, ← Int32.toInt_inj, Int32.reduceToInt, n_1, n_2, n_8, Int32.toNatClampNeg, Int64.lt_iff_toInt_lt, Int64.le_iff_toInt_le, ← Int64.toInt_inj, Int64.reduceToInt, Int32.toInt_toInt64, lg_cmp_ge, lg_cmp_le, lg_cmp_gt, lg_cmp_lt, lg_cmp_eq, Bool.false_eq_true, Bool.true_eq_false, reduceCtorEq, false_iff, true_iff, iff_true, iff_false, and_true, true_and, and_false, false_and, reduceIte, ite_true, ite_false, eq_self] at *)) <;> omega)) | skip
                    clear hv77
                    refine wa_iload rfl ?_
                    refine wa_iadd ?_
                    refine wa_top (fun v78 hv78 => ?_)
                    first | (refine i_addK hv78 ?_ ?_ (fun tv78 => ?_); (((try simp only [vp_in_iff, Int32.lt_iff_toInt_lt, Int32.le_iff_toInt_le, ← Int32.toInt_inj, Int32.reduceToInt, n_1, n_2, n_8, Int32.toNatClampNeg, Int64.lt_iff_toInt_lt, Int64.le_iff_toInt_le, ← Int64.toInt_inj, Int64.reduceToInt, Int32.toInt_toInt64, lg_cmp_ge, lg_cmp_le, lg_cmp_gt, lg_cmp_lt, lg_cmp_eq, Bool.false_eq_true, Bool.true_eq_false, reduceCtorEq, false_iff, true_iff, iff_true, iff_false, and_true, true_and, and_false, false_and, reduceIte, ite_true, ite_false, eq_self] at *)) <;> omega); (((try simp only [vp_in_iff, Int32.lt_iff_toInt_lt, Int32.le_iff_toInt_le, ← Int32.toInt_inj, Int32.reduceToInt, n_1, n_2, n_8, Int32.toNatClampNeg, Int64.lt_iff_toInt_lt, Int64.le_iff_toInt_le, ← Int64.toInt_inj, Int64.reduceToInt, Int32.toInt_toInt64, lg_cmp_ge, lg_cmp_le, lg_cmp_gt, lg_cmp_lt, lg_cmp_eq, Bool.false_eq_true, Bool.true_eq_false, reduceCtorEq, false_iff, true_iff, iff_true, iff_false, and_true, true_and, and_false, false_and, reduceIte, ite_true, ite_false, eq_self] at *)) <;> omega)) | skip
                    clear hv78
                    refine wa_iald ly_137 (by ((try simp only [vp_in_iff, Int32.lt_iff_toInt_lt, Int32.le_iff_toInt_le, ← Int32.toInt_inj, Int32.reduceToInt, n_1, n_2, n_8, Int32.toNatClampNeg, Int64.lt_iff_toInt_lt, Int64.le_iff_toInt_le, ← Int64.toInt_inj, Int64.reduceToInt, Int32.toInt_toInt64, lg_cmp_ge, lg_cmp_le, lg_cmp_gt, lg_cmp_lt, lg_cmp_eq, Bool.false_eq_true, Bool.true_eq_false, reduceCtorEq, false_iff, true_iff, iff_true, iff_false, and_true, true_and, and_false, false_and, reduceIte, ite_true, ite_false, eq_self] at *)) <;> omega) ?_
                    refine wa_top (fun v79 hv79 => ?_)
                    have rv79 : -20 ≤ v79.toInt ∧ v79.toInt ≤ 20 := by rw [← hv79]; exact ar_at As72_137 _
                    clear hv79
                    refine wa_if_ge o_X12_bound_127 (by decide) (fun h80 => ?_) (fun h80 => ?_)
                    · refine wa_aload_n (i := 0) rfl rfl ?_
                      refine wa_getr ck_12 fl_12_292 ly_84 rf_84_116 ?_
                      refine wa_iconst (v := 4) (by decide) ?_
                      refine wa_iload rfl ?_
                      refine wa_imul ?_
                      refine wa_top (fun v81 hv81 => ?_)
                      first | (refine i_mulK hv81 ?_ ?_ (fun tv81 => ?_); (((try simp only [vp_in_iff, Int32.lt_iff_toInt_lt, Int32.le_iff_toInt_le, ← Int32.toInt_inj, Int32.reduceToInt, n_1, n_2, n_8, Int32.toNatClampNeg, Int64.lt_iff_toInt_lt, Int64.le_iff_toInt_le, ← Int64.toInt_inj, Int64.reduceToInt, Int32.toInt_toInt64, lg_cmp_ge, lg_cmp_le, lg_cmp_gt, lg_cmp_lt, lg_cmp_eq, Bool.false_eq_true, Bool.true_eq_false, reduceCtorEq, false_iff, true_iff, iff_true, iff_false, and_true, true_and, and_false, false_and, reduceIte, ite_true, ite_false, eq_self] at *)) <;> omega); (((try simp only [vp_in_iff, Int32.lt_iff_toInt_lt, Int32.le_iff_toInt_le, ← Int32.toInt_inj, Int32.reduceToInt, n_1, n_2, n_8, Int32.toNatClampNeg, Int64.lt_iff_toInt_lt, Int64.le_iff_toInt_le, ← Int64.toInt_inj, Int64.reduceToInt, Int32.toInt_toInt64, lg_cmp_ge, lg_cmp_le, lg_cmp_gt, lg_cmp_lt, lg_cmp_eq, Bool.false_eq_true, Bool.true_eq_false, reduceCtorEq, false_iff, true_iff, iff_true, iff_false, and_true, true_and, and_false, false_and, reduceIte, ite_true, ite_false, eq_self] at *)) <;> omega)) | skip
                      clear hv81
                      refine wa_iload rfl ?_
                      refine wa_iadd ?_
                      refine wa_top (fun v82 hv82 => ?_)
                      first | (refine i_addK hv82 ?_ ?_ (fun tv82 => ?_); (((try simp only [vp_in_iff, Int32.lt_iff_toInt_lt, Int32.le_iff_toInt_le, ← Int32.toInt_inj, Int32.reduceToInt, n_1, n_2, n_8, Int32.toNatClampNeg, Int64.lt_iff_toInt_lt, Int64.le_iff_toInt_le, ← Int64.toInt_inj, Int64.reduceToInt, Int32.toInt_toInt64, lg_cmp_ge, lg_cmp_le, lg_cmp_gt, lg_cmp_lt, lg_cmp_eq, Bool.false_eq_true, Bool.true_eq_false, reduceCtorEq, false_iff, true_iff, iff_true, iff_false, and_true, true_and, and_false, false_and, reduceIte, ite_true, ite_false, eq_self] at *)) <;> omega); (((try simp only [vp_in_iff, Int32.lt_iff_toInt_lt, Int32.le_iff_toInt_le, ← Int32.toInt_inj, Int32.reduceToInt, n_1, n_2, n_8, Int32.toNatClampNeg, Int64.lt_iff_toInt_lt, Int64.le_iff_toInt_le, ← Int64.toInt_inj, Int64.reduceToInt, Int32.toInt_toInt64, lg_cmp_ge, lg_cmp_le, lg_cmp_gt, lg_cmp_lt, lg_cmp_eq, Bool.false_eq_true, Bool.true_eq_false, reduceCtorEq, false_iff, true_iff, iff_true, iff_false, and_true, true_and, and_false, false_and, reduceIte, ite_true, ite_false, eq_self] at *)) <;> omega)) | skip
                      clear hv82
                      refine wa_iald ly_137 (by ((try simp only [vp_in_iff, Int32.lt_iff_toInt_lt, Int32.le_iff_toInt_le, ← Int32.toInt_inj, Int32.reduceToInt, n_1, n_2, n_8, Int32.toNatClampNeg, Int64.lt_iff_toInt_lt, Int64.le_iff_toInt_le, ← Int64.toInt_inj, Int64.reduceToInt, Int32.toInt_toInt64, lg_cmp_ge, lg_cmp_le, lg_cmp_gt, lg_cmp_lt, lg_cmp_eq, Bool.false_eq_true, Bool.true_eq_false, reduceCtorEq, false_iff, true_iff, iff_true, iff_false, and_true, true_and, and_false, false_and, reduceIte, ite_true, ite_false, eq_self] at *)) <;> omega) ?_
                      refine wa_top (fun v83 hv83 => ?_)
                      have rv83 : -20 ≤ v83.toInt ∧ v83.toInt ≤ 20 := by rw [← hv83]; exact ar_at As72_137 _
                      clear hv83
                      refine wa_i2l ?_
                      refine wa_Sl (d9 := d - 1) [.long _, .long _] [] (sp_X12_max G (d := d - 1) (by omega) s72 _ _) (rfl) rfl rfl (zr (by omega)) mk_X12_max ml_12_1009 (Nat.le_of_ble_eq_true rfl) (fun x85 s84 hs84 => ?_)
                      obtain ⟨zs84, cx85_1, cx85_2, cx85_3, -⟩ := pL hs84
                      subst zs84
                      refine wa_lstoreD (lv' := [(4, .long x85), (0, .ref 84), (1, .int a0), (2, .long v40), (6, .int l6), (7, .int l7)]) (by decide) rfl ?_
                      refine wa_iinc (v := (1)) (lv' := fun y86 => [(7, .int y86), (4, .long x85), (0, .ref 84), (1, .int a0), (2, .long v40), (6, .int l6)]) (by decide) rfl (by decide) (fun _ => rfl) (fun y86 hy86 => ?_)
                      replace hy86 := hy86.symm
                      first | (refine i_addK hy86 ?_ ?_ (fun ty86 => ?_); (((try simp only [vp_in_iff, Int32.lt_iff_toInt_lt, Int32.le_iff_toInt_le, ← Int32.toInt_inj, Int32.reduceToInt, n_1, n_2, n_8, Int32.toNatClampNeg, Int64.lt_iff_toInt_lt, Int64.le_iff_toInt_le, ← Int64.toInt_inj, Int64.reduceToInt, Int32.toInt_toInt64, lg_cmp_ge, lg_cmp_le, lg_cmp_gt, lg_cmp_lt, lg_cmp_eq, Bool.false_eq_true, Bool.true_eq_false, reduceCtorEq, false_iff, true_iff, iff_true, iff_false, and_true, true_and, and_false, false_and, reduceIte, ite_true, ite_false, eq_self] at *)) <;> omega); (((try simp only [vp_in_iff, Int32.lt_iff_toInt_lt, Int32.le_iff_toInt_le, ← Int32.toInt_inj, Int32.reduceToInt, n_1, n_2, n_8, Int32.toNatClampNeg, Int64.lt_iff_toInt_lt, Int64.le_iff_toInt_le, ← Int64.toInt_inj, Int64.reduceToInt, Int32.toInt_toInt64, lg_cmp_ge, lg_cmp_le, lg_cmp_gt, lg_cmp_lt, lg_cmp_eq, Bool.false_eq_true, Bool.true_eq_false, reduceCtorEq, false_iff, true_iff, iff_true, iff_false, and_true, true_and, and_false, false_and, reduceIte, ite_true, ite_false, eq_self] at *)) <;> omega)) | skip
                      clear hy86
                      refine wa_goto o_X12_bound_86 (by decide) ?_
                      refine wa_pick [2, 3, 4, 1, 5, 0] rfl ?_
                      exact ih73 _ (by ((try simp only [vp_in_iff, Int32.lt_iff_toInt_lt, Int32.le_iff_toInt_le, ← Int32.toInt_inj, Int32.reduceToInt, n_1, n_2, n_8, Int32.toNatClampNeg, Int64.lt_iff_toInt_lt, Int64.le_iff_toInt_le, ← Int64.toInt_inj, Int64.reduceToInt, Int32.toInt_toInt64, lg_cmp_ge, lg_cmp_le, lg_cmp_gt, lg_cmp_lt, lg_cmp_eq, Bool.false_eq_true, Bool.true_eq_false, reduceCtorEq, false_iff, true_iff, iff_true, iff_false, and_true, true_and, and_false, false_and, reduceIte, ite_true, ite_false, eq_self] at *)) <;> omega) _ _ _ ⟨Fs72, (khi74_0), (khi74_1), (khi74_2), (khi74_3), As72_85, As72_135, As72_136, As72_137, Ps72_WOK, (by ((try simp only [vp_in_iff, Int32.lt_iff_toInt_lt, Int32.le_iff_toInt_le, ← Int32.toInt_inj, Int32.reduceToInt, n_1, n_2, n_8, Int32.toNatClampNeg, Int64.lt_iff_toInt_lt, Int64.le_iff_toInt_le, ← Int64.toInt_inj, Int64.reduceToInt, Int32.toInt_toInt64, lg_cmp_ge, lg_cmp_le, lg_cmp_gt, lg_cmp_lt, lg_cmp_eq, Bool.false_eq_true, Bool.true_eq_false, reduceCtorEq, false_iff, true_iff, iff_true, iff_false, and_true, true_and, and_false, false_and, reduceIte, ite_true, ite_false, eq_self] at *)) <;> omega), (by ((try simp only [vp_in_iff, Int32.lt_iff_toInt_lt, Int32.le_iff_toInt_le, ← Int32.toInt_inj, Int32.reduceToInt, n_1, n_2, n_8, Int32.toNatClampNeg, Int64.lt_iff_toInt_lt, Int64.le_iff_toInt_le, ← Int64.toInt_inj, Int64.reduceToInt, Int32.toInt_toInt64, lg_cmp_ge, lg_cmp_le, lg_cmp_gt, lg_cmp_lt, lg_cmp_eq, Bool.false_eq_true, Bool.true_eq_false, reduceCtorEq, false_iff, true_iff, iff_true, iff_false, and_true, true_and, and_false, false_and, reduceIte, ite_true, ite_false, eq_self] at *)) <;> omega), trivial⟩ rfl
                    · refine wa_iconst (v := 0) (by decide) ?_
                      refine wa_aload_n (i := 0) rfl rfl ?_
                      refine wa_getr ck_12 fl_12_292 ly_84 rf_84_116 ?_
                      refine wa_iconst (v := 4) (by decide) ?_
                      refine wa_iload rfl ?_
                      refine wa_imul ?_
                      refine wa_top (fun v87 hv87 => ?_)
                      first | (refine i_mulK hv87 ?_ ?_ (fun tv87 => ?_); (((try simp only [vp_in_iff, Int32.lt_iff_toInt_lt, Int32.le_iff_toInt_le, ← Int32.toInt_inj, Int32.reduceToInt, n_1, n_2, n_8, Int32.toNatClampNeg, Int64.lt_iff_toInt_lt, Int64.le_iff_toInt_le, ← Int64.toInt_inj, Int64.reduceToInt, Int32.toInt_toInt64, lg_cmp_ge, lg_cmp_le, lg_cmp_gt, lg_cmp_lt, lg_cmp_eq, Bool.false_eq_true, Bool.true_eq_false, reduceCtorEq, false_iff, true_iff, iff_true, iff_false, and_true, true_and, and_false, false_and, reduceIte, ite_true, ite_false, eq_self] at *)) <;> omega); (((try simp only [vp_in_iff, Int32.lt_iff_toInt_lt, Int32.le_iff_toInt_le, ← Int32.toInt_inj, Int32.reduceToInt, n_1, n_2, n_8, Int32.toNatClampNeg, Int64.lt_iff_toInt_lt, Int64.le_iff_toInt_le, ← Int64.toInt_inj, Int64.reduceToInt, Int32.toInt_toInt64, lg_cmp_ge, lg_cmp_le, lg_cmp_gt, lg_cmp_lt, lg_cmp_eq, Bool.false_eq_true, Bool.true_eq_false, reduceCtorEq, false_iff, true_iff, iff_true, iff_false, and_true, true_and, and_false, false_and, reduceIte, ite_true, ite_false, eq_self] at *)) <;> omega)) | skip
                      clear hv87
                      refine wa_iload rfl ?_
                      refine wa_iadd ?_
                      refine wa_top (fun v88 hv88 => ?_)
                      first | (refine i_addK hv88 ?_ ?_ (fun tv88 => ?_); (((try simp only [vp_in_iff, Int32.lt_iff_toInt_lt, Int32.le_iff_toInt_le, ← Int32.toInt_inj, Int32.reduceToInt, n_1, n_2, n_8, Int32.toNatClampNeg, Int64.lt_iff_toInt_lt, Int64.le_iff_toInt_le, ← Int64.toInt_inj, Int64.reduceToInt, Int32.toInt_toInt64, lg_cmp_ge, lg_cmp_le, lg_cmp_gt, lg_cmp_lt, lg_cmp_eq, Bool.false_eq_true, Bool.true_eq_false, reduceCtorEq, false_iff, true_iff, iff_true, iff_false, and_true, true_and, and_false, false_and, reduceIte, ite_true, ite_false, eq_self] at *)) <;> omega); (((try simp only [vp_in_iff, Int32.lt_iff_toInt_lt, Int32.le_iff_toInt_le, ← Int32.toInt_inj, Int32.reduceToInt, n_1, n_2, n_8, Int32.toNatClampNeg, Int64.lt_iff_toInt_lt, Int64.le_iff_toInt_le, ← Int64.toInt_inj, Int64.reduceToInt, Int32.toInt_toInt64, lg_cmp_ge, lg_cmp_le, lg_cmp_gt, lg_cmp_lt, lg_cmp_eq, Bool.false_eq_true, Bool.true_eq_false, reduceCtorEq, false_iff, true_iff, iff_true, iff_false, and_true, true_and, and_false, false_and, reduceIte, ite_true, ite_false, eq_self] at *)) <;> omega)) | skip
                      clear hv88
                      refine wa_iald ly_137 (by ((try simp only [vp_in_iff, Int32.lt_iff_toInt_lt, Int32.le_iff_toInt_le, ← Int32.toInt_inj, Int32.reduceToInt, n_1, n_2, n_8, Int32.toNatClampNeg, Int64.lt_iff_toInt_lt, Int64.le_iff_toInt_le, ← Int64.toInt_inj, Int64.reduceToInt, Int32.toInt_toInt64, lg_cmp_ge, lg_cmp_le, lg_cmp_gt, lg_cmp_lt, lg_cmp_eq, Bool.false_eq_true, Bool.true_eq_false, reduceCtorEq, false_iff, true_iff, iff_true, iff_false, and_true, true_and, and_false, false_and, reduceIte, ite_true, ite_false, eq_self] at *)) <;> omega) ?_
                      refine wa_top (fun v89 hv89 => ?_)
                      have rv89 : -20 ≤ v89.toInt ∧ v89.toInt ≤ 20 := by rw [← hv89]; exact ar_at As72_137 _
                      clear hv89
                      refine wa_isub ?_
                      refine wa_top (fun v90 hv90 => ?_)
                      first | (refine i_subK hv90 ?_ ?_ (fun tv90 => ?_); (((try simp only [vp_in_iff, Int32.lt_iff_toInt_lt, Int32.le_iff_toInt_le, ← Int32.toInt_inj, Int32.reduceToInt, n_1, n_2, n_8, Int32.toNatClampNeg, Int64.lt_iff_toInt_lt, Int64.le_iff_toInt_le, ← Int64.toInt_inj, Int64.reduceToInt, Int32.toInt_toInt64, lg_cmp_ge, lg_cmp_le, lg_cmp_gt, lg_cmp_lt, lg_cmp_eq, Bool.false_eq_true, Bool.true_eq_false, reduceCtorEq, false_iff, true_iff, iff_true, iff_false, and_true, true_and, and_false, false_and, reduceIte, ite_true, ite_false, eq_self] at *)) <;> omega); (((try simp only [vp_in_iff, Int32.lt_iff_toInt_lt, Int32.le_iff_toInt_le, ← Int32.toInt_inj, Int32.reduceToInt, n_1, n_2, n_8, Int32.toNatClampNeg, Int64.lt_iff_toInt_lt, Int64.le_iff_toInt_le, ← Int64.toInt_inj, Int64.reduceToInt, Int32.toInt_toInt64, lg_cmp_ge, lg_cmp_le, lg_cmp_gt, lg_cmp_lt, lg_cmp_eq, Bool.false_eq_true, Bool.true_eq_false, reduceCtorEq, false_iff, true_iff, iff_true, iff_false, and_true, true_and, and_false, false_and, reduceIte, ite_true, ite_false, eq_self] at *)) <;> omega)) | skip
                      clear hv90
                      refine wa_i2l ?_
                      refine wa_goto o_X12_bound_140 (by decide) ?_
                      refine wa_Sl (d9 := d - 1) [.long _, .long _] [] (sp_X12_max G (d := d - 1) (by omega) s72 _ _) (rfl) rfl rfl (zr (by omega)) mk_X12_max ml_12_1009 (Nat.le_of_ble_eq_true rfl) (fun x92 s91 hs91 => ?_)
                      obtain ⟨zs91, cx92_1, cx92_2, cx92_3, -⟩ := pL hs91
                      subst zs91
                      refine wa_lstoreD (lv' := [(4, .long x92), (0, .ref 84), (1, .int a0), (2, .long v40), (6, .int l6), (7, .int l7)]) (by decide) rfl ?_
                      refine wa_iinc (v := (1)) (lv' := fun y93 => [(7, .int y93), (4, .long x92), (0, .ref 84), (1, .int a0), (2, .long v40), (6, .int l6)]) (by decide) rfl (by decide) (fun _ => rfl) (fun y93 hy93 => ?_)
                      replace hy93 := hy93.symm
                      first | (refine i_addK hy93 ?_ ?_ (fun ty93 => ?_); (((try simp only [vp_in_iff, Int32.lt_iff_toInt_lt, Int32.le_iff_toInt_le, ← Int32.toInt_inj, Int32.reduceToInt, n_1, n_2, n_8, Int32.toNatClampNeg, Int64.lt_iff_toInt_lt, Int64.le_iff_toInt_le, ← Int64.toInt_inj, Int64.reduceToInt, Int32.toInt_toInt64, lg_cmp_ge, lg_cmp_le, lg_cmp_gt, lg_cmp_lt, lg_cmp_eq, Bool.false_eq_true, Bool.true_eq_false, reduceCtorEq, false_iff, true_iff, iff_true, iff_false, and_true, true_and, and_false, false_and, reduceIte, ite_true, ite_false, eq_self] at *)) <;> omega); (((try simp only [vp_in_iff, Int32.lt_iff_toInt_lt, Int32.le_iff_toInt_le, ← Int32.toInt_inj, Int32.reduceToInt, n_1, n_2, n_8, Int32.toNatClampNeg, Int64.lt_iff_toInt_lt, Int64.le_iff_toInt_le, ← Int64.toInt_inj, Int64.reduceToInt, Int32.toInt_toInt64, lg_cmp_ge, lg_cmp_le, lg_cmp_gt, lg_cmp_lt, lg_cmp_eq, Bool.false_eq_true, Bool.true_eq_false, reduceCtorEq, false_iff, true_iff, iff_true, iff_false, and_true, true_and, and_false, false_and, reduceIte, ite_true, ite_false, eq_self] at *)) <;> omega)) | skip
                      clear hy93
                      refine wa_goto o_X12_bound_86 (by decide) ?_
                      refine wa_pick [2, 3, 4, 1, 5, 0] rfl ?_
                      exact ih73 _ (by ((try simp only [vp_in_iff, Int32.lt_iff_toInt_lt, Int32.le_iff_toInt_le, ← Int32.toInt_inj, Int32.reduceToInt, n_1, n_2, n_8, Int32.toNatClampNeg, Int64.lt_iff_toInt_lt, Int64.le_iff_toInt_le, ← Int64.toInt_inj, Int64.reduceToInt, Int32.toInt_toInt64, lg_cmp_ge, lg_cmp_le, lg_cmp_gt, lg_cmp_lt, lg_cmp_eq, Bool.false_eq_true, Bool.true_eq_false, reduceCtorEq, false_iff, true_iff, iff_true, iff_false, and_true, true_and, and_false, false_and, reduceIte, ite_true, ite_false, eq_self] at *)) <;> omega) _ _ _ ⟨Fs72, (khi74_0), (khi74_1), (khi74_2), (khi74_3), As72_85, As72_135, As72_136, As72_137, Ps72_WOK, (by ((try simp only [vp_in_iff, Int32.lt_iff_toInt_lt, Int32.le_iff_toInt_le, ← Int32.toInt_inj, Int32.reduceToInt, n_1, n_2, n_8, Int32.toNatClampNeg, Int64.lt_iff_toInt_lt, Int64.le_iff_toInt_le, ← Int64.toInt_inj, Int64.reduceToInt, Int32.toInt_toInt64, lg_cmp_ge, lg_cmp_le, lg_cmp_gt, lg_cmp_lt, lg_cmp_eq, Bool.false_eq_true, Bool.true_eq_false, reduceCtorEq, false_iff, true_iff, iff_true, iff_false, and_true, true_and, and_false, false_and, reduceIte, ite_true, ite_false, eq_self] at *)) <;> omega), (by ((try simp only [vp_in_iff, Int32.lt_iff_toInt_lt, Int32.le_iff_toInt_le, ← Int32.toInt_inj, Int32.reduceToInt, n_1, n_2, n_8, Int32.toNatClampNeg, Int64.lt_iff_toInt_lt, Int64.le_iff_toInt_le, ← Int64.toInt_inj, Int64.reduceToInt, Int32.toInt_toInt64, lg_cmp_ge, lg_cmp_le, lg_cmp_gt, lg_cmp_lt, lg_cmp_eq, Bool.false_eq_true, Bool.true_eq_false, reduceCtorEq, false_iff, true_iff, iff_true, iff_false, and_true, true_and, and_false, false_and, reduceIte, ite_true, ite_false, eq_self] at *)) <;> omega), trivial⟩ rfl
              exact hi74 _ _ _ _ ⟨Fs6, (khi8_0), (khi8_1), (khi8_2), (khi8_3), As6_85, As6_135, As6_136, As6_137, Ps6_WOK, (by ((try simp only [vp_in_iff, Int32.lt_iff_toInt_lt, Int32.le_iff_toInt_le, ← Int32.toInt_inj, Int32.reduceToInt, n_1, n_2, n_8, Int32.toNatClampNeg, Int64.lt_iff_toInt_lt, Int64.le_iff_toInt_le, ← Int64.toInt_inj, Int64.reduceToInt, Int32.toInt_toInt64, lg_cmp_ge, lg_cmp_le, lg_cmp_gt, lg_cmp_lt, lg_cmp_eq, Bool.false_eq_true, Bool.true_eq_false, reduceCtorEq, false_iff, true_iff, iff_true, iff_false, and_true, true_and, and_false, false_and, reduceIte, ite_true, ite_false, eq_self] at *)) <;> omega), (by ((try simp only [vp_in_iff, Int32.lt_iff_toInt_lt, Int32.le_iff_toInt_le, ← Int32.toInt_inj, Int32.reduceToInt, n_1, n_2, n_8, Int32.toNatClampNeg, Int64.lt_iff_toInt_lt, Int64.le_iff_toInt_le, ← Int64.toInt_inj, Int64.reduceToInt, Int32.toInt_toInt64, lg_cmp_ge, lg_cmp_le, lg_cmp_gt, lg_cmp_lt, lg_cmp_eq, Bool.false_eq_true, Bool.true_eq_false, reduceCtorEq, false_iff, true_iff, iff_true, iff_false, and_true, true_and, and_false, false_and, reduceIte, ite_true, ite_false, eq_self] at *)) <;> omega), trivial⟩ rfl
    exact hi8 _ _ _ _ _ ⟨Fs4, ((Fm.gi fs4 (q := 84) (k := 33) rfl rfl).trans (Fm.gi fs1 (q := 84) (k := 33) rfl rfl)), ((Fm.gi fs4 (q := 84) (k := 32) rfl rfl).trans (Fm.gi fs1 (q := 84) (k := 32) rfl rfl)), (rfl), ((Fm.gi fs4 (q := 84) (k := 194) rfl rfl).trans (Fm.gi fs1 (q := 84) (k := 194) rfl rfl)), (ar_fm fs4 rfl rfl (ar_fm fs1 rfl rfl A_85)), As4_135, As4_136, As4_137, Ps4_WOK, (by ((try simp only [vp_in_iff, Int32.lt_iff_toInt_lt, Int32.le_iff_toInt_le, ← Int32.toInt_inj, Int32.reduceToInt, n_1, n_2, n_8, Int32.toNatClampNeg, Int64.lt_iff_toInt_lt, Int64.le_iff_toInt_le, ← Int64.toInt_inj, Int64.reduceToInt, Int32.toInt_toInt64, lg_cmp_ge, lg_cmp_le, lg_cmp_gt, lg_cmp_lt, lg_cmp_eq, Bool.false_eq_true, Bool.true_eq_false, reduceCtorEq, false_iff, true_iff, iff_true, iff_false, and_true, true_and, and_false, false_and, reduceIte, ite_true, ite_false, eq_self] at *)) <;> omega), (by first | assumption | (((try simp only [vp_in_iff, Int32.lt_iff_toInt_lt, Int32.le_iff_toInt_le, ← Int32.toInt_inj, Int32.reduceToInt, n_1, n_2, n_8, Int32.toNatClampNeg, Int64.lt_iff_toInt_lt, Int64.le_iff_toInt_le, ← Int64.toInt_inj, Int64.reduceToInt, Int32.toInt_toInt64, lg_cmp_ge, lg_cmp_le, lg_cmp_gt, lg_cmp_lt, lg_cmp_eq, Bool.false_eq_true, Bool.true_eq_false, reduceCtorEq, false_iff, true_iff, iff_true, iff_false, and_true, true_and, and_false, false_and, reduceIte, ite_true, ite_false, eq_self] at *)) <;> omega)), (by ((try simp only [vp_in_iff, Int32.lt_iff_toInt_lt, Int32.le_iff_toInt_le, ← Int32.toInt_inj, Int32.reduceToInt, n_1, n_2, n_8, Int32.toNatClampNeg, Int64.lt_iff_toInt_lt, Int64.le_iff_toInt_le, ← Int64.toInt_inj, Int64.reduceToInt, Int32.toInt_toInt64, lg_cmp_ge, lg_cmp_le, lg_cmp_gt, lg_cmp_lt, lg_cmp_eq, Bool.false_eq_true, Bool.true_eq_false, reduceCtorEq, false_iff, true_iff, iff_true, iff_false, and_true, true_and, and_false, false_and, reduceIte, ite_true, ite_false, eq_self] at *)) <;> omega), (by ((try simp only [vp_in_iff, Int32.lt_iff_toInt_lt, Int32.le_iff_toInt_le, ← Int32.toInt_inj, Int32.reduceToInt, n_1, n_2, n_8, Int32.toNatClampNeg, Int64.lt_iff_toInt_lt, Int64.le_iff_toInt_le, ← Int64.toInt_inj, Int64.reduceToInt, Int32.toInt_toInt64, lg_cmp_ge, lg_cmp_le, lg_cmp_gt, lg_cmp_lt, lg_cmp_eq, Bool.false_eq_true, Bool.true_eq_false, reduceCtorEq, false_iff, true_iff, iff_true, iff_false, and_true, true_and, and_false, false_and, reduceIte, ite_true, ite_false, eq_self] at *)) <;> omega), trivial⟩ rfl
  · replace h3 := bI_f (b := bx2) (rfl) h3
    refine wa_bipush (v := (-105)) (by decide) ?_
    refine wa_ireturn rfl rfl ?_
    exact ⟨_, rfl, Fs1, (ar_fm fs1 rfl rfl A_85), (ar_fm fs1 rfl rfl A_135), (ar_fm fs1 rfl rfl A_136), (ar_fm fs1 rfl rfl A_137), (WOK_of (fun k => Fm.gi fs1 (q := 135) (k := k) rfl rfl) (fun k => Fm.gi fs1 (q := 136) (k := k) rfl rfl) P_WOK), trivial⟩
set_option maxHeartbeats 4000000 in
theorem sp_X12_audit (G : kG9) {d : Nat} (hd : 1 ≤ d) (σ : St) : Ct G M_X12_audit d [.ref 84] σ (fun r σ' => ∃ x : Int32, r = some (.int x) ∧ Fm [] [0] σ σ' ∧ True) := by
  refine wa_start (by decide) rfl (Nat.le_of_ble_eq_true rfl) (lv := [(0, .ref 84)]) rfl o_X12_audit_0 rfl ?_
  refine wa_aload_n (i := 0) rfl rfl ?_
  refine wa_Vi (d9 := d - 1) [] [] (sp_X12_asks G (d := d - 1) (by omega) σ ) (rfl) rfl rfl (zr (by omega)) mk_X12_asks ly_84 ml_12_871 (Nat.le_of_ble_eq_true rfl) (fun x2 s1 hs1 => ?_)
  obtain ⟨bx2, ex2, fs1, -⟩ := pB hs1
  subst ex2
  have Fs1 : Fm [] [0] σ s1 := Fm.tr (Fm.rf [] [0] σ) (Fm.wd fs1 rfl rfl)
  refine wa_if_eq o_X12_audit_11 (by decide) (fun h3 => ?_) (fun h3 => ?_)
  · replace h3 := bI_f (b := bx2) (rfl) h3
    refine wa_bipush (v := (-105)) (by decide) ?_
    refine wa_ireturn rfl rfl ?_
    exact ⟨_, rfl, Fs1, trivial⟩
  · replace h3 := bI_t (b := bx2) (rfl) h3
    refine wa_iconst (v := 0) (by decide) ?_
    refine wa_goto o_X12_audit_13 (by decide) ?_
    refine wa_ireturn rfl rfl ?_
    exact ⟨_, rfl, Fs1, trivial⟩
theorem pad_31i : True := trivial
