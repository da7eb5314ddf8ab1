set_option maxHeartbeats 4000000 in
theorem sp_X2_shownByte (G : kG9) {d : Nat} (hd : 0 ≤ d) (σ : St) (a0 : Int32) : Ct G M_X2_shownByte d [.ref 7, .int a0] σ (fun r σ' => ∃ x : Int32, r = some (.int x) ∧ σ = σ' ∧ True) := by
  refine wa_start (by decide) rfl (Nat.le_of_ble_eq_true rfl) (lv := [(0, .ref 7), (1, .int a0)]) rfl o_X2_shownByte_0 rfl ?_
  have ua0 := Int32.toInt_lt a0
  have wa0 := Int32.le_toInt a0
  refine wa_iload_n (i := 1) rfl rfl ?_
  refine wa_if_lt o_X2_shownByte_32 (by decide) (fun h1 => ?_) (fun h1 => ?_)
  · refine wa_iconst (v := (-1)) (by decide) ?_
    refine wa_ireturn rfl rfl ?_
    exact ⟨_, rfl, rfl, trivial⟩
  · refine wa_iload_n (i := 1) rfl rfl ?_
    refine wa_aload_n (i := 0) rfl rfl ?_
    refine wa_geti ck_2 fl_2_71 ly_7 ?_
    refine wa_icmp_ge o_X2_shownByte_32 (by decide) (fun h2 => ?_) (fun h2 => ?_)
    · refine wa_iconst (v := (-1)) (by decide) ?_
      refine wa_ireturn rfl rfl ?_
      exact ⟨_, rfl, rfl, trivial⟩
    · have mh2 := nle_mx h2
      refine wa_iload_n (i := 1) rfl rfl ?_
      refine wa_sipush (v := 1200) (by decide) ?_
      refine wa_icmp_ge o_X2_shownByte_32 (by decide) (fun h3 => ?_) (fun h3 => ?_)
      · refine wa_iconst (v := (-1)) (by decide) ?_
        refine wa_ireturn rfl rfl ?_
        exact ⟨_, rfl, rfl, trivial⟩
      · have mh3 := nle_mx h3
        refine wa_aload_n (i := 0) rfl rfl ?_
        refine wa_getr ck_2 fl_2_40 ly_7 rf_7_9 ?_
        refine wa_iload_n (i := 1) rfl rfl ?_
        refine wa_bald ly_17 (by ((try simp only [vp_in_iff, Int32.lt_iff_toInt_lt, Int32.le_iff_toInt_le, ← Int32.toInt_inj, Int32.reduceToInt, n_1, n_2, n_8, Int32.toNatClampNeg, Int64.lt_iff_toInt_lt, Int64.le_iff_toInt_le, ← Int64.toInt_inj, Int64.reduceToInt, Int32.toInt_toInt64, lg_cmp_ge, lg_cmp_le, lg_cmp_gt, lg_cmp_lt, lg_cmp_eq, Bool.false_eq_true, Bool.true_eq_false, reduceCtorEq, false_iff, true_iff, iff_true, iff_false, and_true, true_and, and_false, false_and, reduceIte, ite_true, ite_false, eq_self] at *)) <;> omega) ?_
        refine wa_sipush (v := 255) (by decide) ?_
        refine wa_iand ?_
        refine wa_top (fun v4 hv4 => ?_)
        have tv4 := i_andT hv4
        clear hv4
        refine wa_goto o_X2_shownByte_33 (by decide) ?_
        refine wa_ireturn rfl rfl ?_
        exact ⟨_, rfl, rfl, trivial⟩
set_option maxHeartbeats 4000000 in
theorem sp_X3_packed (G : kG9) {d : Nat} (hd : 4 ≤ d) (σ : St) (a0 : Nat × String × Nat × String × Nat × List Int32) (ha0 : a0 ∈ kSq) (a1 : Int32) (p1 : 0 ≤ a1.toInt) : Ct G M_X3_packed d [.ref (1000 + a0.1), .int a1] σ (fun r σ' => ∃ x : Int64, r = some (.long x) ∧ σ = σ' ∧ True) := by
  refine wa_start (by decide) rfl (Nat.le_of_ble_eq_true rfl) (lv := [(0, .ref (1000 + a0.1)), (1, .int a1)]) rfl o_X3_packed_0 rfl ?_
  have ua1 := Int32.toInt_lt a1
  have wa1 := Int32.le_toInt a1
  refine wa_lconst (v := 0) (by decide) ?_
  refine wa_lstore_nD (lv' := [(2, .long 0), (0, .ref (1000 + a0.1)), (1, .int a1)]) (i := 2) rfl (by decide) rfl ?_
  refine wa_iload_n (i := 1) rfl rfl ?_
  refine wa_istoreD (lv' := [(4, .int a1), (2, .long 0), (0, .ref (1000 + a0.1)), (1, .int a1)]) (by decide) rfl ?_
  refine wa_pick [2, 3, 1, 0] rfl ?_
  have hi2 : ∀ (n9_5 : Nat) (l2 : Int64) (l4 : Int32), ((0 ≤ l4.toInt) ∧ (True)) → (2147483647 - l4.toInt).toNat = n9_5 → WA G M_X3_packed (ZM G M_X3_packed d (fun r σ' => ∃ x : Int64, r = some (.long x) ∧ σ = σ' ∧ True)) B_X3_packed_5 [(0, .ref (1000 + a0.1)), (1, .int a1), (2, .long l2), (4, .int l4)] [] σ := by
    intro n9_5
    induction n9_5 using Nat.strongRecOn with
    | _ n9_5 ih1 =>
      intro l2 l4  i9 m9_5
      obtain ⟨jhi2_0, -⟩ := i9
      have ul4 := Int32.toInt_lt l4
      have wl4 := Int32.le_toInt l4
      refine wa_iload rfl ?_
      refine wa_iload_n (i := 1) rfl rfl ?_
      refine wa_bipush (v := 8) (by decide) ?_
      refine wa_iadd ?_
      refine wa_top (fun v3 hv3 => ?_)
      have tv3 := i_addT hv3
      clear hv3
      refine wa_icmp_ge o_X3_packed_53 (by decide) (fun h4 => ?_) (fun h4 => ?_)
      · refine wa_lload_n (i := 2) rfl rfl ?_
        refine wa_lreturn rfl rfl ?_
        exact ⟨_, rfl, rfl, trivial⟩
      · have mh4 := nle_mx h4
        refine wa_iload rfl ?_
        refine wa_aload_n (i := 0) rfl rfl ?_
        refine wa_Ti (d9 := d - 1) a0 [] [.int l4] (sp_J0_length_8abf5 G (d := d - 1) (by omega) σ a0 ha0) rfl rfl rfl (zr (by omega)) mk_J0_length_8abf5 ha0 ml_3_38 (Nat.le_of_ble_eq_true rfl) (fun x5 s6 hs6 => ?_)
        obtain ⟨zs6, cx5, -⟩ := pI hs6
        subst zs6
        refine wa_icmp_ge o_X3_packed_53 (by decide) (fun h7 => ?_) (fun h7 => ?_)
        · refine wa_lload_n (i := 2) rfl rfl ?_
          refine wa_lreturn rfl rfl ?_
          exact ⟨_, rfl, rfl, trivial⟩
        · have mh7 := nle_mx h7
          refine wa_aload_n (i := 0) rfl rfl ?_
          refine wa_iload rfl ?_
          refine wa_Ti (d9 := d - 1) a0 [.int _] [] (sp_J0_charAt_5068e G (d := d - 1) (by omega) σ a0 ha0 l4 (by ((try simp only [vp_in_iff, Int32.lt_iff_toInt_lt, Int32.le_iff_toInt_le, ← Int32.toInt_inj, Int32.reduceToInt, n_1, n_2, n_8, Int32.toNatClampNeg, Int64.lt_iff_toInt_lt, Int64.le_iff_toInt_le, ← Int64.toInt_inj, Int64.reduceToInt, Int32.toInt_toInt64, lg_cmp_ge, lg_cmp_le, lg_cmp_gt, lg_cmp_lt, lg_cmp_eq, Bool.false_eq_true, Bool.true_eq_false, reduceCtorEq, false_iff, true_iff, iff_true, iff_false, and_true, true_and, and_false, false_and, reduceIte, ite_true, ite_false, eq_self] at *)) <;> omega) (show (l4).toInt < (a0.2.2.2.2.1 : Int) from by ((try simp only [vp_in_iff, Int32.lt_iff_toInt_lt, Int32.le_iff_toInt_le, ← Int32.toInt_inj, Int32.reduceToInt, n_1, n_2, n_8, Int32.toNatClampNeg, Int64.lt_iff_toInt_lt, Int64.le_iff_toInt_le, ← Int64.toInt_inj, Int64.reduceToInt, Int32.toInt_toInt64, lg_cmp_ge, lg_cmp_le, lg_cmp_gt, lg_cmp_lt, lg_cmp_eq, Bool.false_eq_true, Bool.true_eq_false, reduceCtorEq, false_iff, true_iff, iff_true, iff_false, and_true, true_and, and_false, false_and, reduceIte, ite_true, ite_false, eq_self] at *)) <;> omega)) rfl rfl rfl (zr (by omega)) mk_J0_charAt_5068e ha0 ml_3_44 (Nat.le_of_ble_eq_true rfl) (fun x8 s9 hs9 => ?_)
          obtain ⟨zs9, cx8, -⟩ := pI hs9
          subst zs9
          refine wa_bipush (v := 32) (by decide) ?_
          refine wa_icmp_eq o_X3_packed_53 (by decide) (fun h10 => ?_) (fun h10 => ?_)
          · refine wa_lload_n (i := 2) rfl rfl ?_
            refine wa_lreturn rfl rfl ?_
            exact ⟨_, rfl, rfl, trivial⟩
          · refine wa_lload_n (i := 2) rfl rfl ?_
            refine wa_bipush (v := 8) (by decide) ?_
            refine wa_lshl ?_
            refine wa_topl (fun v11 hv11 => ?_)
            clear hv11
            refine wa_aload_n (i := 0) rfl rfl ?_
            refine wa_iload rfl ?_
            refine wa_Ti (d9 := d - 1) a0 [.int _] [.long v11] (sp_J0_charAt_5068e G (d := d - 1) (by omega) σ a0 ha0 l4 (by ((try simp only [vp_in_iff, Int32.lt_iff_toInt_lt, Int32.le_iff_toInt_le, ← Int32.toInt_inj, Int32.reduceToInt, n_1, n_2, n_8, Int32.toNatClampNeg, Int64.lt_iff_toInt_lt, Int64.le_iff_toInt_le, ← Int64.toInt_inj, Int64.reduceToInt, Int32.toInt_toInt64, lg_cmp_ge, lg_cmp_le, lg_cmp_gt, lg_cmp_lt, lg_cmp_eq, Bool.false_eq_true, Bool.true_eq_false, reduceCtorEq, false_iff, true_iff, iff_true, iff_false, and_true, true_and, and_false, false_and, reduceIte, ite_true, ite_false, eq_self] at *)) <;> omega) (show (l4).toInt < (a0.2.2.2.2.1 : Int) from by ((try simp only [vp_in_iff, Int32.lt_iff_toInt_lt, Int32.le_iff_toInt_le, ← Int32.toInt_inj, Int32.reduceToInt, n_1, n_2, n_8, Int32.toNatClampNeg, Int64.lt_iff_toInt_lt, Int64.le_iff_toInt_le, ← Int64.toInt_inj, Int64.reduceToInt, Int32.toInt_toInt64, lg_cmp_ge, lg_cmp_le, lg_cmp_gt, lg_cmp_lt, lg_cmp_eq, Bool.false_eq_true, Bool.true_eq_false, reduceCtorEq, false_iff, true_iff, iff_true, iff_false, and_true, true_and, and_false, false_and, reduceIte, ite_true, ite_false, eq_self] at *)) <;> omega)) rfl rfl rfl (zr (by omega)) mk_J0_charAt_5068e ha0 ml_3_44 (Nat.le_of_ble_eq_true rfl) (fun x12 s13 hs13 => ?_)
            obtain ⟨zs13, cx12, -⟩ := pI hs13
            subst zs13
            refine wa_i2l ?_
            refine wa_lor ?_
            refine wa_topl (fun v14 hv14 => ?_)
            clear hv14
            refine wa_lstore_nD (lv' := [(2, .long v14), (0, .ref (1000 + a0.1)), (1, .int a1), (4, .int l4)]) (i := 2) rfl (by decide) rfl ?_
            refine wa_iinc (v := (1)) (lv' := fun y15 => [(4, .int y15), (2, .long v14), (0, .ref (1000 + a0.1)), (1, .int a1)]) (by decide) rfl (by decide) (fun _ => rfl) (fun y15 hy15 => ?_)
            have ty15 := i_addT hy15.symm
            clear hy15
            refine wa_goto o_X3_packed_5 (by decide) ?_
            refine wa_pick [2, 3, 1, 0] rfl ?_
            exact ih1 _ (by ((try simp only [vp_in_iff, Int32.lt_iff_toInt_lt, Int32.le_iff_toInt_le, ← Int32.toInt_inj, Int32.reduceToInt, n_1, n_2, n_8, Int32.toNatClampNeg, Int64.lt_iff_toInt_lt, Int64.le_iff_toInt_le, ← Int64.toInt_inj, Int64.reduceToInt, Int32.toInt_toInt64, lg_cmp_ge, lg_cmp_le, lg_cmp_gt, lg_cmp_lt, lg_cmp_eq, Bool.false_eq_true, Bool.true_eq_false, reduceCtorEq, false_iff, true_iff, iff_true, iff_false, and_true, true_and, and_false, false_and, reduceIte, ite_true, ite_false, eq_self] at *)) <;> omega) _ _ ⟨(by ((try simp only [vp_in_iff, Int32.lt_iff_toInt_lt, Int32.le_iff_toInt_le, ← Int32.toInt_inj, Int32.reduceToInt, n_1, n_2, n_8, Int32.toNatClampNeg, Int64.lt_iff_toInt_lt, Int64.le_iff_toInt_le, ← Int64.toInt_inj, Int64.reduceToInt, Int32.toInt_toInt64, lg_cmp_ge, lg_cmp_le, lg_cmp_gt, lg_cmp_lt, lg_cmp_eq, Bool.false_eq_true, Bool.true_eq_false, reduceCtorEq, false_iff, true_iff, iff_true, iff_false, and_true, true_and, and_false, false_and, reduceIte, ite_true, ite_false, eq_self] at *)) <;> omega), trivial⟩ rfl
  exact hi2 _ _ _ ⟨(by ((try simp only [vp_in_iff, Int32.lt_iff_toInt_lt, Int32.le_iff_toInt_le, ← Int32.toInt_inj, Int32.reduceToInt, n_1, n_2, n_8, Int32.toNatClampNeg, Int64.lt_iff_toInt_lt, Int64.le_iff_toInt_le, ← Int64.toInt_inj, Int64.reduceToInt, Int32.toInt_toInt64, lg_cmp_ge, lg_cmp_le, lg_cmp_gt, lg_cmp_lt, lg_cmp_eq, Bool.false_eq_true, Bool.true_eq_false, reduceCtorEq, false_iff, true_iff, iff_true, iff_false, and_true, true_and, and_false, false_and, reduceIte, ite_true, ite_false, eq_self] at *)) <;> omega), trivial⟩ rfl
set_option maxHeartbeats 4000000 in
theorem sp_X3_kindAt (G : kG9) {d : Nat} (hd : 0 ≤ d) (σ : St) (a0 : Int32) (r1 : (gi σ 18 5).toInt ≤ 2000) : Ct G M_X3_kindAt d [.ref 18, .int a0] σ (fun r σ' => ∃ x : Int32, r = some (.int x) ∧ σ = σ' ∧ True) := by
  refine wa_start (by decide) rfl (Nat.le_of_ble_eq_true rfl) (lv := [(0, .ref 18), (1, .int a0)]) rfl o_X3_kindAt_0 rfl ?_
  have ua0 := Int32.toInt_lt a0
  have wa0 := Int32.le_toInt a0
  refine wa_iload_n (i := 1) rfl rfl ?_
  refine wa_if_lt o_X3_kindAt_21 (by decide) (fun h1 => ?_) (fun h1 => ?_)
  · refine wa_iconst (v := 0) (by decide) ?_
    refine wa_ireturn rfl rfl ?_
    exact ⟨_, rfl, rfl, trivial⟩
  · refine wa_iload_n (i := 1) rfl rfl ?_
    refine wa_aload_n (i := 0) rfl rfl ?_
    refine wa_geti ck_3 fl_3_48 ly_18 ?_
    refine wa_icmp_ge o_X3_kindAt_21 (by decide) (fun h2 => ?_) (fun h2 => ?_)
    · refine wa_iconst (v := 0) (by decide) ?_
      refine wa_ireturn rfl rfl ?_
      exact ⟨_, rfl, rfl, trivial⟩
    · have mh2 := nle_mx h2
      refine wa_aload_n (i := 0) rfl rfl ?_
      refine wa_getr ck_3 fl_3_15 ly_18 rf_18_1 ?_
      refine wa_iload_n (i := 1) rfl rfl ?_
      refine wa_iald ly_20 (by ((try simp only [vp_in_iff, Int32.lt_iff_toInt_lt, Int32.le_iff_toInt_le, ← Int32.toInt_inj, Int32.reduceToInt, n_1, n_2, n_8, Int32.toNatClampNeg, Int64.lt_iff_toInt_lt, Int64.le_iff_toInt_le, ← Int64.toInt_inj, Int64.reduceToInt, Int32.toInt_toInt64, lg_cmp_ge, lg_cmp_le, lg_cmp_gt, lg_cmp_lt, lg_cmp_eq, Bool.false_eq_true, Bool.true_eq_false, reduceCtorEq, false_iff, true_iff, iff_true, iff_false, and_true, true_and, and_false, false_and, reduceIte, ite_true, ite_false, eq_self] at *)) <;> omega) ?_
      refine wa_goto o_X3_kindAt_22 (by decide) ?_
      refine wa_ireturn rfl rfl ?_
      exact ⟨_, rfl, rfl, trivial⟩
set_option maxHeartbeats 4000000 in
theorem sp_X3_placeAt (G : kG9) {d : Nat} (hd : 0 ≤ d) (σ : St) (a0 : Int32) (r1 : (gi σ 18 5).toInt ≤ 2000) : Ct G M_X3_placeAt d [.ref 18, .int a0] σ (fun r σ' => ∃ x : Int32, r = some (.int x) ∧ σ = σ' ∧ True) := by
  refine wa_start (by decide) rfl (Nat.le_of_ble_eq_true rfl) (lv := [(0, .ref 18), (1, .int a0)]) rfl o_X3_placeAt_0 rfl ?_
  have ua0 := Int32.toInt_lt a0
  have wa0 := Int32.le_toInt a0
  refine wa_iload_n (i := 1) rfl rfl ?_
  refine wa_if_lt o_X3_placeAt_21 (by decide) (fun h1 => ?_) (fun h1 => ?_)
  · refine wa_aload_n (i := 0) rfl rfl ?_
    refine wa_geti ck_3 fl_3_52 ly_18 ?_
    refine wa_aload_n (i := 0) rfl rfl ?_
    refine wa_geti ck_3 fl_3_55 ly_18 ?_
    refine wa_isub ?_
    refine wa_top (fun v2 hv2 => ?_)
    have tv2 := i_subT hv2
    clear hv2
    refine wa_ireturn rfl rfl ?_
    exact ⟨_, rfl, rfl, trivial⟩
  · refine wa_iload_n (i := 1) rfl rfl ?_
    refine wa_aload_n (i := 0) rfl rfl ?_
    refine wa_geti ck_3 fl_3_48 ly_18 ?_
    refine wa_icmp_ge o_X3_placeAt_21 (by decide) (fun h3 => ?_) (fun h3 => ?_)
    · refine wa_aload_n (i := 0) rfl rfl ?_
      refine wa_geti ck_3 fl_3_52 ly_18 ?_
      refine wa_aload_n (i := 0) rfl rfl ?_
      refine wa_geti ck_3 fl_3_55 ly_18 ?_
      refine wa_isub ?_
      refine wa_top (fun v4 hv4 => ?_)
      have tv4 := i_subT hv4
      clear hv4
      refine wa_ireturn rfl rfl ?_
      exact ⟨_, rfl, rfl, trivial⟩
    · have mh3 := nle_mx h3
      refine wa_aload_n (i := 0) rfl rfl ?_
      refine wa_getr ck_3 fl_3_19 ly_18 rf_18_2 ?_
      refine wa_iload_n (i := 1) rfl rfl ?_
      refine wa_iald ly_21 (by ((try simp only [vp_in_iff, Int32.lt_iff_toInt_lt, Int32.le_iff_toInt_le, ← Int32.toInt_inj, Int32.reduceToInt, n_1, n_2, n_8, Int32.toNatClampNeg, Int64.lt_iff_toInt_lt, Int64.le_iff_toInt_le, ← Int64.toInt_inj, Int64.reduceToInt, Int32.toInt_toInt64, lg_cmp_ge, lg_cmp_le, lg_cmp_gt, lg_cmp_lt, lg_cmp_eq, Bool.false_eq_true, Bool.true_eq_false, reduceCtorEq, false_iff, true_iff, iff_true, iff_false, and_true, true_and, and_false, false_and, reduceIte, ite_true, ite_false, eq_self] at *)) <;> omega) ?_
      refine wa_goto o_X3_placeAt_30 (by decide) ?_
      refine wa_ireturn rfl rfl ?_
      exact ⟨_, rfl, rfl, trivial⟩
set_option maxHeartbeats 4000000 in
theorem sp_X3_numberAt (G : kG9) {d : Nat} (hd : 0 ≤ d) (σ : St) (a0 : Int32) (r1 : (gi σ 18 5).toInt ≤ 2000) : Ct G M_X3_numberAt d [.ref 18, .int a0] σ (fun r σ' => ∃ x : Int32, r = some (.int x) ∧ σ = σ' ∧ True) := by
  refine wa_start (by decide) rfl (Nat.le_of_ble_eq_true rfl) (lv := [(0, .ref 18), (1, .int a0)]) rfl o_X3_numberAt_0 rfl ?_
  have ua0 := Int32.toInt_lt a0
  have wa0 := Int32.le_toInt a0
  refine wa_iload_n (i := 1) rfl rfl ?_
  refine wa_if_lt o_X3_numberAt_24 (by decide) (fun h1 => ?_) (fun h1 => ?_)
  · refine wa_iconst (v := 0) (by decide) ?_
    refine wa_ireturn rfl rfl ?_
    exact ⟨_, rfl, rfl, trivial⟩
  · refine wa_iload_n (i := 1) rfl rfl ?_
    refine wa_aload_n (i := 0) rfl rfl ?_
    refine wa_geti ck_3 fl_3_48 ly_18 ?_
    refine wa_icmp_ge o_X3_numberAt_24 (by decide) (fun h2 => ?_) (fun h2 => ?_)
    · refine wa_iconst (v := 0) (by decide) ?_
      refine wa_ireturn rfl rfl ?_
      exact ⟨_, rfl, rfl, trivial⟩
    · have mh2 := nle_mx h2
      refine wa_aload_n (i := 0) rfl rfl ?_
      refine wa_getr ck_3 fl_3_22 ly_18 rf_18_3 ?_
      refine wa_iload_n (i := 1) rfl rfl ?_
      refine wa_iald ly_22 (by ((try simp only [vp_in_iff, Int32.lt_iff_toInt_lt, Int32.le_iff_toInt_le, ← Int32.toInt_inj, Int32.reduceToInt, n_1, n_2, n_8, Int32.toNatClampNeg, Int64.lt_iff_toInt_lt, Int64.le_iff_toInt_le, ← Int64.toInt_inj, Int64.reduceToInt, Int32.toInt_toInt64, lg_cmp_ge, lg_cmp_le, lg_cmp_gt, lg_cmp_lt, lg_cmp_eq, Bool.false_eq_true, Bool.true_eq_false, reduceCtorEq, false_iff, true_iff, iff_true, iff_false, and_true, true_and, and_false, false_and, reduceIte, ite_true, ite_false, eq_self] at *)) <;> omega) ?_
      refine wa_ldc (v := (1048575)) (allW_in (kT_4 _ (List.mem_of_getElem? (i := 168) rfl)) rfl) ?_
      refine wa_iand ?_
      refine wa_top (fun v3 hv3 => ?_)
      have tv3 := i_andT hv3
      clear hv3
      refine wa_goto o_X3_numberAt_25 (by decide) ?_
      refine wa_ireturn rfl rfl ?_
      exact ⟨_, rfl, rfl, trivial⟩
set_option maxHeartbeats 4000000 in
theorem sp_X3_writtenAt (G : kG9) {d : Nat} (hd : 0 ≤ d) (σ : St) (a0 : Int32) (r1 : (gi σ 18 5).toInt ≤ 2000) : Ct G M_X3_writtenAt d [.ref 18, .int a0] σ (fun r σ' => ∃ x : Int32, r = some (.int x) ∧ σ = σ' ∧ True) := by
  refine wa_start (by decide) rfl (Nat.le_of_ble_eq_true rfl) (lv := [(0, .ref 18), (1, .int a0)]) rfl o_X3_writtenAt_0 rfl ?_
  have ua0 := Int32.toInt_lt a0
  have wa0 := Int32.le_toInt a0
  refine wa_iload_n (i := 1) rfl rfl ?_
  refine wa_if_lt o_X3_writtenAt_21 (by decide) (fun h1 => ?_) (fun h1 => ?_)
  · refine wa_iconst (v := 0) (by decide) ?_
    refine wa_ireturn rfl rfl ?_
    exact ⟨_, rfl, rfl, trivial⟩
  · refine wa_iload_n (i := 1) rfl rfl ?_
    refine wa_aload_n (i := 0) rfl rfl ?_
    refine wa_geti ck_3 fl_3_48 ly_18 ?_
    refine wa_icmp_ge o_X3_writtenAt_21 (by decide) (fun h2 => ?_) (fun h2 => ?_)
    · refine wa_iconst (v := 0) (by decide) ?_
      refine wa_ireturn rfl rfl ?_
      exact ⟨_, rfl, rfl, trivial⟩
    · have mh2 := nle_mx h2
      refine wa_aload_n (i := 0) rfl rfl ?_
      refine wa_getr ck_3 fl_3_22 ly_18 rf_18_3 ?_
      refine wa_iload_n (i := 1) rfl rfl ?_
      refine wa_iald ly_22 (by ((try simp only [vp_in_iff, Int32.lt_iff_toInt_lt, Int32.le_iff_toInt_le, ← Int32.toInt_inj, Int32.reduceToInt, n_1, n_2, n_8, Int32.toNatClampNeg, Int64.lt_iff_toInt_lt, Int64.le_iff_toInt_le, ← Int64.toInt_inj, Int64.reduceToInt, Int32.toInt_toInt64, lg_cmp_ge, lg_cmp_le, lg_cmp_gt, lg_cmp_lt, lg_cmp_eq, Bool.false_eq_true, Bool.true_eq_false, reduceCtorEq, false_iff, true_iff, iff_true, iff_false, and_true, true_and, and_false, false_and, reduceIte, ite_true, ite_false, eq_self] at *)) <;> omega) ?_
      refine wa_goto o_X3_writtenAt_22 (by decide) ?_
      refine wa_ireturn rfl rfl ?_
      exact ⟨_, rfl, rfl, trivial⟩
set_option maxHeartbeats 4000000 in
theorem sp_X3_nameAt (G : kG9) {d : Nat} (hd : 0 ≤ d) (σ : St) (a0 : Int32) (r1 : (gi σ 18 5).toInt ≤ 2000) : Ct G M_X3_nameAt d [.ref 18, .int a0] σ (fun r σ' => ∃ x : Int64, r = some (.long x) ∧ σ = σ' ∧ True) := by
  refine wa_start (by decide) rfl (Nat.le_of_ble_eq_true rfl) (lv := [(0, .ref 18), (1, .int a0)]) rfl o_X3_nameAt_0 rfl ?_
  have ua0 := Int32.toInt_lt a0
  have wa0 := Int32.le_toInt a0
  refine wa_iload_n (i := 1) rfl rfl ?_
  refine wa_if_lt o_X3_nameAt_21 (by decide) (fun h1 => ?_) (fun h1 => ?_)
  · refine wa_lconst (v := 0) (by decide) ?_
    refine wa_lreturn rfl rfl ?_
    exact ⟨_, rfl, rfl, trivial⟩
  · refine wa_iload_n (i := 1) rfl rfl ?_
    refine wa_aload_n (i := 0) rfl rfl ?_
    refine wa_geti ck_3 fl_3_48 ly_18 ?_
    refine wa_icmp_ge o_X3_nameAt_21 (by decide) (fun h2 => ?_) (fun h2 => ?_)
    · refine wa_lconst (v := 0) (by decide) ?_
      refine wa_lreturn rfl rfl ?_
      exact ⟨_, rfl, rfl, trivial⟩
    · have mh2 := nle_mx h2
      refine wa_aload_n (i := 0) rfl rfl ?_
      refine wa_getr ck_3 fl_3_25 ly_18 rf_18_4 ?_
      refine wa_iload_n (i := 1) rfl rfl ?_
      refine wa_lald ly_23 (by ((try simp only [vp_in_iff, Int32.lt_iff_toInt_lt, Int32.le_iff_toInt_le, ← Int32.toInt_inj, Int32.reduceToInt, n_1, n_2, n_8, Int32.toNatClampNeg, Int64.lt_iff_toInt_lt, Int64.le_iff_toInt_le, ← Int64.toInt_inj, Int64.reduceToInt, Int32.toInt_toInt64, lg_cmp_ge, lg_cmp_le, lg_cmp_gt, lg_cmp_lt, lg_cmp_eq, Bool.false_eq_true, Bool.true_eq_false, reduceCtorEq, false_iff, true_iff, iff_true, iff_false, and_true, true_and, and_false, false_and, reduceIte, ite_true, ite_false, eq_self] at *)) <;> omega) ?_
      refine wa_goto o_X3_nameAt_22 (by decide) ?_
      refine wa_lreturn rfl rfl ?_
      exact ⟨_, rfl, rfl, trivial⟩
set_option maxHeartbeats 4000000 in
theorem sp_X3_byteAt (G : kG9) {d : Nat} (hd : 0 ≤ d) (σ : St) (a0 : Int32) (r1 : gr σ 18 6 = 1 ∨ gr σ 18 6 = 6) : Ct G M_X3_byteAt d [.ref 18, .int a0] σ (fun r σ' => ∃ x : Int32, r = some (.int x) ∧ σ = σ' ∧ True) := by
  refine wa_start (by decide) rfl (Nat.le_of_ble_eq_true rfl) (lv := [(0, .ref 18), (1, .int a0)]) rfl o_X3_byteAt_0 rfl ?_
  have ua0 := Int32.toInt_lt a0
  have wa0 := Int32.le_toInt a0
  rcases r1 with p1 | p1
  · refine wa_iload_n (i := 1) rfl rfl ?_
    refine wa_aload_n (i := 0) rfl rfl ?_
    refine wa_geti ck_3 fl_3_55 ly_18 ?_
    refine wa_icmp_lt o_X3_byteAt_42 (by decide) (fun h1 => ?_) (fun h1 => ?_)
    · refine wa_iconst (v := 0) (by decide) ?_
      refine wa_ireturn rfl rfl ?_
      exact ⟨_, rfl, rfl, trivial⟩
    · refine wa_iload_n (i := 1) rfl rfl ?_
      refine wa_aload_n (i := 0) rfl rfl ?_
      refine wa_geti ck_3 fl_3_52 ly_18 ?_
      refine wa_icmp_ge o_X3_byteAt_42 (by decide) (fun h2 => ?_) (fun h2 => ?_)
      · refine wa_iconst (v := 0) (by decide) ?_
        refine wa_ireturn rfl rfl ?_
        exact ⟨_, rfl, rfl, trivial⟩
      · have mh2 := nle_mx h2
        refine wa_iload_n (i := 1) rfl rfl ?_
        refine wa_if_lt o_X3_byteAt_42 (by decide) (fun h3 => ?_) (fun h3 => ?_)
        · refine wa_iconst (v := 0) (by decide) ?_
          refine wa_ireturn rfl rfl ?_
          exact ⟨_, rfl, rfl, trivial⟩
        · refine wa_iload_n (i := 1) rfl rfl ?_
          refine wa_aload_n (i := 0) rfl rfl ?_
          refine wa_getr4 ck_3 fl_3_28 ly_18 p1 ?_
          refine wa_alen ly_1 (by decide) ?_
          refine wa_rw (show Int32.ofNat 2000 = 2000 from rfl) ?_
          refine wa_icmp_ge o_X3_byteAt_42 (by decide) (fun h4 => ?_) (fun h4 => ?_)
          · refine wa_iconst (v := 0) (by decide) ?_
            refine wa_ireturn rfl rfl ?_
            exact ⟨_, rfl, rfl, trivial⟩
          · have mh4 := nle_mx h4
            refine wa_aload_n (i := 0) rfl rfl ?_
            refine wa_getr4 ck_3 fl_3_28 ly_18 p1 ?_
            refine wa_iload_n (i := 1) rfl rfl ?_
            refine wa_bald ly_1 (by ((try simp only [vp_in_iff, Int32.lt_iff_toInt_lt, Int32.le_iff_toInt_le, ← Int32.toInt_inj, Int32.reduceToInt, n_1, n_2, n_8, Int32.toNatClampNeg, Int64.lt_iff_toInt_lt, Int64.le_iff_toInt_le, ← Int64.toInt_inj, Int64.reduceToInt, Int32.toInt_toInt64, lg_cmp_ge, lg_cmp_le, lg_cmp_gt, lg_cmp_lt, lg_cmp_eq, Bool.false_eq_true, Bool.true_eq_false, reduceCtorEq, false_iff, true_iff, iff_true, iff_false, and_true, true_and, and_false, false_and, reduceIte, ite_true, ite_false, eq_self] at *)) <;> omega) ?_
            refine wa_sipush (v := 255) (by decide) ?_
            refine wa_iand ?_
            refine wa_top (fun v5 hv5 => ?_)
            have tv5 := i_andT hv5
            clear hv5
            refine wa_goto o_X3_byteAt_43 (by decide) ?_
            refine wa_ireturn rfl rfl ?_
            exact ⟨_, rfl, rfl, trivial⟩
  · refine wa_iload_n (i := 1) rfl rfl ?_
    refine wa_aload_n (i := 0) rfl rfl ?_
    refine wa_geti ck_3 fl_3_55 ly_18 ?_
    refine wa_icmp_lt o_X3_byteAt_42 (by decide) (fun h6 => ?_) (fun h6 => ?_)
    · refine wa_iconst (v := 0) (by decide) ?_
      refine wa_ireturn rfl rfl ?_
      exact ⟨_, rfl, rfl, trivial⟩
    · refine wa_iload_n (i := 1) rfl rfl ?_
      refine wa_aload_n (i := 0) rfl rfl ?_
      refine wa_geti ck_3 fl_3_52 ly_18 ?_
      refine wa_icmp_ge o_X3_byteAt_42 (by decide) (fun h7 => ?_) (fun h7 => ?_)
      · refine wa_iconst (v := 0) (by decide) ?_
        refine wa_ireturn rfl rfl ?_
        exact ⟨_, rfl, rfl, trivial⟩
      · have mh7 := nle_mx h7
        refine wa_iload_n (i := 1) rfl rfl ?_
        refine wa_if_lt o_X3_byteAt_42 (by decide) (fun h8 => ?_) (fun h8 => ?_)
        · refine wa_iconst (v := 0) (by decide) ?_
          refine wa_ireturn rfl rfl ?_
          exact ⟨_, rfl, rfl, trivial⟩
        · refine wa_iload_n (i := 1) rfl rfl ?_
          refine wa_aload_n (i := 0) rfl rfl ?_
          refine wa_getr4 ck_3 fl_3_28 ly_18 p1 ?_
          refine wa_alen ly_6 (by decide) ?_
          refine wa_rw (show Int32.ofNat 24800 = 24800 from rfl) ?_
          refine wa_icmp_ge o_X3_byteAt_42 (by decide) (fun h9 => ?_) (fun h9 => ?_)
          · refine wa_iconst (v := 0) (by decide) ?_
            refine wa_ireturn rfl rfl ?_
            exact ⟨_, rfl, rfl, trivial⟩
          · have mh9 := nle_mx h9
            refine wa_aload_n (i := 0) rfl rfl ?_
            refine wa_getr4 ck_3 fl_3_28 ly_18 p1 ?_
            refine wa_iload_n (i := 1) rfl rfl ?_
            refine wa_bald ly_6 (by ((try simp only [vp_in_iff, Int32.lt_iff_toInt_lt, Int32.le_iff_toInt_le, ← Int32.toInt_inj, Int32.reduceToInt, n_1, n_2, n_8, Int32.toNatClampNeg, Int64.lt_iff_toInt_lt, Int64.le_iff_toInt_le, ← Int64.toInt_inj, Int64.reduceToInt, Int32.toInt_toInt64, lg_cmp_ge, lg_cmp_le, lg_cmp_gt, lg_cmp_lt, lg_cmp_eq, Bool.false_eq_true, Bool.true_eq_false, reduceCtorEq, false_iff, true_iff, iff_true, iff_false, and_true, true_and, and_false, false_and, reduceIte, ite_true, ite_false, eq_self] at *)) <;> omega) ?_
            refine wa_sipush (v := 255) (by decide) ?_
            refine wa_iand ?_
            refine wa_top (fun v10 hv10 => ?_)
            have tv10 := i_andT hv10
            clear hv10
            refine wa_goto o_X3_byteAt_43 (by decide) ?_
            refine wa_ireturn rfl rfl ?_
            exact ⟨_, rfl, rfl, trivial⟩
set_option maxHeartbeats 4000000 in
theorem sp_X3_behindBlanks (G : kG9) {d : Nat} (hd : 1 ≤ d) (σ : St) (a0 : Int32) (r1 : gr σ 18 6 = 1 ∨ gr σ 18 6 = 6) : Ct G M_X3_behindBlanks d [.ref 18, .int a0] σ (fun r σ' => ∃ x : Int32, r = some (.int x) ∧ σ = σ' ∧ True) := by
  refine wa_start (by decide) rfl (Nat.le_of_ble_eq_true rfl) (lv := [(0, .ref 18), (1, .int a0)]) rfl o_X3_behindBlanks_0 rfl ?_
  have ua0 := Int32.toInt_lt a0
  have wa0 := Int32.le_toInt a0
  refine wa_iload_n (i := 1) rfl rfl ?_
  refine wa_istore_nD (lv' := [(2, .int a0), (0, .ref 18), (1, .int a0)]) (i := 2) rfl (by decide) rfl ?_
  refine wa_pick [1, 0] rfl ?_
  have hi2 : ∀ (n9_2 : Nat) (l2 : Int32), (True) → (2147483647 - l2.toInt).toNat = n9_2 → WA G M_X3_behindBlanks (ZM G M_X3_behindBlanks d (fun r σ' => ∃ x : Int32, r = some (.int x) ∧ σ = σ' ∧ True)) B_X3_behindBlanks_2 [(0, .ref 18), (2, .int l2)] [] σ := by
    intro n9_2
    induction n9_2 using Nat.strongRecOn with
    | _ n9_2 ih1 =>
      intro l2  i9 m9_2
      have ul2 := Int32.toInt_lt l2
      have wl2 := Int32.le_toInt l2
      refine wa_iload_n (i := 2) rfl rfl ?_
      refine wa_aload_n (i := 0) rfl rfl ?_
      refine wa_geti ck_3 fl_3_52 ly_18 ?_
      refine wa_icmp_ge o_X3_behindBlanks_36 (by decide) (fun h3 => ?_) (fun h3 => ?_)
      · refine wa_iload_n (i := 2) rfl rfl ?_
        refine wa_ireturn rfl rfl ?_
        exact ⟨_, rfl, rfl, trivial⟩
      · have mh3 := nle_mx h3
        refine wa_aload_n (i := 0) rfl rfl ?_
        refine wa_iload_n (i := 2) rfl rfl ?_
        refine wa_Vi (d9 := d - 1) [.int _] [] (sp_X3_byteAt G (d := d - 1) (by omega) σ _ (by first | assumption | exact Or.inl rfl | exact Or.inr rfl | (((try simp only [vp_in_iff, Int32.lt_iff_toInt_lt, Int32.le_iff_toInt_le, ← Int32.toInt_inj, Int32.reduceToInt, n_1, n_2, n_8, Int32.toNatClampNeg, Int64.lt_iff_toInt_lt, Int64.le_iff_toInt_le, ← Int64.toInt_inj, Int64.reduceToInt, Int32.toInt_toInt64, lg_cmp_ge, lg_cmp_le, lg_cmp_gt, lg_cmp_lt, lg_cmp_eq, Bool.false_eq_true, Bool.true_eq_false, reduceCtorEq, false_iff, true_iff, iff_true, iff_false, and_true, true_and, and_false, false_and, reduceIte, ite_true, ite_false, eq_self] at *)) <;> omega))) (rfl) rfl rfl (zr (by omega)) mk_X3_byteAt ly_18 ml_3_63 (Nat.le_of_ble_eq_true rfl) (fun x5 s4 hs4 => ?_)
        obtain ⟨zs4, -⟩ := pI hs4
        subst zs4
        refine wa_bipush (v := 32) (by decide) ?_
        refine wa_icmp_eq o_X3_behindBlanks_30 (by decide) (fun h6 => ?_) (fun h6 => ?_)
        · refine wa_iinc (v := (1)) (lv' := fun y7 => [(2, .int y7), (0, .ref 18)]) (by decide) rfl (by decide) (fun _ => rfl) (fun y7 hy7 => ?_)
          have ty7 := i_addT hy7.symm
          clear hy7
          refine wa_goto o_X3_behindBlanks_2 (by decide) ?_
          refine wa_pick [1, 0] rfl ?_
          exact ih1 _ (by ((try simp only [vp_in_iff, Int32.lt_iff_toInt_lt, Int32.le_iff_toInt_le, ← Int32.toInt_inj, Int32.reduceToInt, n_1, n_2, n_8, Int32.toNatClampNeg, Int64.lt_iff_toInt_lt, Int64.le_iff_toInt_le, ← Int64.toInt_inj, Int64.reduceToInt, Int32.toInt_toInt64, lg_cmp_ge, lg_cmp_le, lg_cmp_gt, lg_cmp_lt, lg_cmp_eq, Bool.false_eq_true, Bool.true_eq_false, reduceCtorEq, false_iff, true_iff, iff_true, iff_false, and_true, true_and, and_false, false_and, reduceIte, ite_true, ite_false, eq_self] at *)) <;> omega) _ trivial rfl
        · refine wa_aload_n (i := 0) rfl rfl ?_
          refine wa_iload_n (i := 2) rfl rfl ?_
          refine wa_Vi (d9 := d - 1) [.int _] [] (sp_X3_byteAt G (d := d - 1) (by omega) σ _ (by first | assumption | exact Or.inl rfl | exact Or.inr rfl | (((try simp only [vp_in_iff, Int32.lt_iff_toInt_lt, Int32.le_iff_toInt_le, ← Int32.toInt_inj, Int32.reduceToInt, n_1, n_2, n_8, Int32.toNatClampNeg, Int64.lt_iff_toInt_lt, Int64.le_iff_toInt_le, ← Int64.toInt_inj, Int64.reduceToInt, Int32.toInt_toInt64, lg_cmp_ge, lg_cmp_le, lg_cmp_gt, lg_cmp_lt, lg_cmp_eq, Bool.false_eq_true, Bool.true_eq_false, reduceCtorEq, false_iff, true_iff, iff_true, iff_false, and_true, true_and, and_false, false_and, reduceIte, ite_true, ite_false, eq_self] at *)) <;> omega))) (rfl) rfl rfl (zr (by omega)) mk_X3_byteAt ly_18 ml_3_63 (Nat.le_of_ble_eq_true rfl) (fun x9 s8 hs8 => ?_)
          obtain ⟨zs8, -⟩ := pI hs8
          subst zs8
          refine wa_bipush (v := 10) (by decide) ?_
          refine wa_icmp_ne o_X3_behindBlanks_36 (by decide) (fun h10 => ?_) (fun h10 => ?_)
          · refine wa_iload_n (i := 2) rfl rfl ?_
            refine wa_ireturn rfl rfl ?_
            exact ⟨_, rfl, rfl, trivial⟩
          · refine wa_iinc (v := (1)) (lv' := fun y11 => [(2, .int y11), (0, .ref 18)]) (by decide) rfl (by decide) (fun _ => rfl) (fun y11 hy11 => ?_)
            have ty11 := i_addT hy11.symm
            clear hy11
            refine wa_goto o_X3_behindBlanks_2 (by decide) ?_
            refine wa_pick [1, 0] rfl ?_
            exact ih1 _ (by ((try simp only [vp_in_iff, Int32.lt_iff_toInt_lt, Int32.le_iff_toInt_le, ← Int32.toInt_inj, Int32.reduceToInt, n_1, n_2, n_8, Int32.toNatClampNeg, Int64.lt_iff_toInt_lt, Int64.le_iff_toInt_le, ← Int64.toInt_inj, Int64.reduceToInt, Int32.toInt_toInt64, lg_cmp_ge, lg_cmp_le, lg_cmp_gt, lg_cmp_lt, lg_cmp_eq, Bool.false_eq_true, Bool.true_eq_false, reduceCtorEq, false_iff, true_iff, iff_true, iff_false, and_true, true_and, and_false, false_and, reduceIte, ite_true, ite_false, eq_self] at *)) <;> omega) _ trivial rfl
  exact hi2 _ _ trivial rfl
set_option maxHeartbeats 4000000 in
theorem sp_X3_isLetter (G : kG9) {d : Nat} (hd : 0 ≤ d) (σ : St) (a0 : Int32) : Ct G M_X3_isLetter d [.int a0] σ (fun r σ' => ∃ x : Bool, r = some (.int (bI x)) ∧ σ = σ' ∧ True) := by
  refine wa_start (by decide) rfl (Nat.le_of_ble_eq_true rfl) (lv := [(0, .int a0)]) rfl o_X3_isLetter_0 rfl ?_
  have ua0 := Int32.toInt_lt a0
  have wa0 := Int32.le_toInt a0
  refine wa_iload_n (i := 0) rfl rfl ?_
  refine wa_bipush (v := 97) (by decide) ?_
  refine wa_icmp_lt o_X3_isLetter_12 (by decide) (fun h1 => ?_) (fun h1 => ?_)
  · refine wa_iload_n (i := 0) rfl rfl ?_
    refine wa_bipush (v := 65) (by decide) ?_
    refine wa_icmp_lt o_X3_isLetter_28 (by decide) (fun h2 => ?_) (fun h2 => ?_)
    · refine wa_iconst (v := 0) (by decide) ?_
      refine wa_zreturn false (rfl) rfl rfl ?_
      exact ⟨_, rfl, rfl, trivial⟩
    · refine wa_iload_n (i := 0) rfl rfl ?_
      refine wa_bipush (v := 90) (by decide) ?_
      refine wa_icmp_gt o_X3_isLetter_28 (by decide) (fun h3 => ?_) (fun h3 => ?_)
      · refine wa_iconst (v := 0) (by decide) ?_
        refine wa_zreturn false (rfl) rfl rfl ?_
        exact ⟨_, rfl, rfl, trivial⟩
      · refine wa_iconst (v := 1) (by decide) ?_
        refine wa_goto o_X3_isLetter_29 (by decide) ?_
        refine wa_zreturn true (rfl) rfl rfl ?_
        exact ⟨_, rfl, rfl, trivial⟩
  · refine wa_iload_n (i := 0) rfl rfl ?_
    refine wa_bipush (v := 122) (by decide) ?_
    refine wa_icmp_le o_X3_isLetter_24 (by decide) (fun h4 => ?_) (fun h4 => ?_)
    · refine wa_iconst (v := 1) (by decide) ?_
      refine wa_goto o_X3_isLetter_29 (by decide) ?_
      refine wa_zreturn true (rfl) rfl rfl ?_
      exact ⟨_, rfl, rfl, trivial⟩
    · refine wa_iload_n (i := 0) rfl rfl ?_
      refine wa_bipush (v := 65) (by decide) ?_
      refine wa_icmp_lt o_X3_isLetter_28 (by decide) (fun h5 => ?_) (fun h5 => ?_)
      · refine wa_iconst (v := 0) (by decide) ?_
        refine wa_zreturn false (rfl) rfl rfl ?_
        exact ⟨_, rfl, rfl, trivial⟩
      · refine wa_iload_n (i := 0) rfl rfl ?_
        refine wa_bipush (v := 90) (by decide) ?_
        refine wa_icmp_gt o_X3_isLetter_28 (by decide) (fun h6 => ?_) (fun h6 => ?_)
        · refine wa_iconst (v := 0) (by decide) ?_
          refine wa_zreturn false (rfl) rfl rfl ?_
          exact ⟨_, rfl, rfl, trivial⟩
        · refine wa_iconst (v := 1) (by decide) ?_
          refine wa_goto o_X3_isLetter_29 (by decide) ?_
          refine wa_zreturn true (rfl) rfl rfl ?_
          exact ⟨_, rfl, rfl, trivial⟩
set_option maxHeartbeats 4000000 in
theorem sp_X3_isDigit (G : kG9) {d : Nat} (hd : 0 ≤ d) (σ : St) (a0 : Int32) : Ct G M_X3_isDigit d [.int a0] σ (fun r σ' => ∃ x : Bool, r = some (.int (bI x)) ∧ σ = σ' ∧ True) := by
  refine wa_start (by decide) rfl (Nat.le_of_ble_eq_true rfl) (lv := [(0, .int a0)]) rfl o_X3_isDigit_0 rfl ?_
  have ua0 := Int32.toInt_lt a0
  have wa0 := Int32.le_toInt a0
  refine wa_iload_n (i := 0) rfl rfl ?_
  refine wa_bipush (v := 48) (by decide) ?_
  refine wa_icmp_lt o_X3_isDigit_16 (by decide) (fun h1 => ?_) (fun h1 => ?_)
  · refine wa_iconst (v := 0) (by decide) ?_
    refine wa_zreturn false (rfl) rfl rfl ?_
    exact ⟨_, rfl, rfl, trivial⟩
  · refine wa_iload_n (i := 0) rfl rfl ?_
    refine wa_bipush (v := 57) (by decide) ?_
    refine wa_icmp_gt o_X3_isDigit_16 (by decide) (fun h2 => ?_) (fun h2 => ?_)
    · refine wa_iconst (v := 0) (by decide) ?_
      refine wa_zreturn false (rfl) rfl rfl ?_
      exact ⟨_, rfl, rfl, trivial⟩
    · refine wa_iconst (v := 1) (by decide) ?_
      refine wa_goto o_X3_isDigit_17 (by decide) ?_
      refine wa_zreturn true (rfl) rfl rfl ?_
      exact ⟨_, rfl, rfl, trivial⟩
set_option maxHeartbeats 4000000 in
theorem sp_X3_word (G : kG9) {d : Nat} (hd : 1 ≤ d) (σ : St) (a0 : Int32) (a1 : Int32) (a2 : Int32) (r1 : gr σ 18 6 = 1 ∨ gr σ 18 6 = 6) : Ct G M_X3_word d [.ref 18, .int a0, .int a1, .int a2] σ (fun r σ' => ∃ x : Int32, r = some (.int x) ∧ Sm 20 24 σ σ' ∧ (gr σ' 18 6 = gr σ 18 6) ∧ (gi σ' 18 5 = gi σ 18 5) ∧ True) := by
  refine wa_start (by decide) rfl (Nat.le_of_ble_eq_true rfl) (lv := [(0, .ref 18), (1, .int a0), (2, .int a1), (3, .int a2)]) rfl o_X3_word_0 rfl ?_
  have ua0 := Int32.toInt_lt a0
  have wa0 := Int32.le_toInt a0
  have ua1 := Int32.toInt_lt a1
  have wa1 := Int32.le_toInt a1
  have ua2 := Int32.toInt_lt a2
  have wa2 := Int32.le_toInt a2
  refine wa_lconst (v := 0) (by decide) ?_
  refine wa_lstoreD (lv' := [(4, .long 0), (0, .ref 18), (1, .int a0), (2, .int a1), (3, .int a2)]) (by decide) rfl ?_
  refine wa_iload_n (i := 2) rfl rfl ?_
  refine wa_istoreD (lv' := [(6, .int a1), (4, .long 0), (0, .ref 18), (1, .int a0), (2, .int a1), (3, .int a2)]) (by decide) rfl ?_
  refine wa_pick [2, 3, 4, 5, 1, 0] rfl ?_
  have hi3 : ∀ (n9_6 : Nat) (l4 : Int64) (l6 : Int32) (s1 : St), ((Sm 20 24 σ s1) ∧ (gr s1 18 6 = gr σ 18 6) ∧ (gi s1 18 5 = gi σ 18 5) ∧ (gi s1 18 8 = gi σ 18 8) ∧ (True)) → (2147483647 - l6.toInt).toNat = n9_6 → WA G M_X3_word (ZM G M_X3_word d (fun r σ' => ∃ x : Int32, r = some (.int x) ∧ Sm 20 24 σ σ' ∧ (gr σ' 18 6 = gr σ 18 6) ∧ (gi σ' 18 5 = gi σ 18 5) ∧ True)) B_X3_word_6 [(0, .ref 18), (1, .int a0), (2, .int a1), (3, .int a2), (4, .long l4), (6, .int l6)] [] s1 := by
    intro n9_6
    induction n9_6 using Nat.strongRecOn with
    | _ n9_6 ih2 =>
      intro l4 l6 s1 i9 m9_6
      obtain ⟨Fs1, khi3_0, khi3_1, khi3_2, -⟩ := i9
      have ul6 := Int32.toInt_lt l6
      have wl6 := Int32.le_toInt l6
      refine wa_iload rfl ?_
      refine wa_aload_n (i := 0) rfl rfl ?_
      refine wa_geti ck_3 fl_3_52 ly_18 ?_
      refine wa_rw (khi3_2) ?_
      refine wa_icmp_ge o_X3_word_60 (by decide) (fun h4 => ?_) (fun h4 => ?_)
      · refine wa_iload rfl ?_
        refine wa_iload_n (i := 2) rfl rfl ?_
        refine wa_isub ?_
        refine wa_top (fun v5 hv5 => ?_)
        have tv5 := i_subT hv5
        clear hv5
        refine wa_bipush (v := 8) (by decide) ?_
        refine wa_icmp_le o_X3_word_73 (by decide) (fun h6 => ?_) (fun h6 => ?_)
        · refine wa_iconst (v := 1) (by decide) ?_
          refine wa_istoreD (lv' := [(7, .int 1), (0, .ref 18), (1, .int a0), (2, .int a1), (3, .int a2), (4, .long l4), (6, .int l6)]) (by decide) rfl ?_
          refine wa_iconst (v := 0) (by decide) ?_
          refine wa_istoreD (lv' := [(8, .int 0), (7, .int 1), (0, .ref 18), (1, .int a0), (2, .int a1), (3, .int a2), (4, .long l4), (6, .int l6)]) (by decide) rfl ?_
          refine wa_pick [2, 3, 5, 6, 7, 1, 0] rfl ?_
          have hi8 : ∀ (n9_79 : Nat) (l7 : Int32) (l8 : Int32), ((0 ≤ l8.toInt) ∧ (True)) → (2147483647 - l8.toInt).toNat = n9_79 → WA G M_X3_word (ZM G M_X3_word d (fun r σ' => ∃ x : Int32, r = some (.int x) ∧ Sm 20 24 σ σ' ∧ (gr σ' 18 6 = gr σ 18 6) ∧ (gi σ' 18 5 = gi σ 18 5) ∧ True)) B_X3_word_79 [(0, .ref 18), (1, .int a0), (3, .int a2), (4, .long l4), (6, .int l6), (7, .int l7), (8, .int l8)] [] s1 := by
            intro n9_79
            induction n9_79 using Nat.strongRecOn with
            | _ n9_79 ih7 =>
              intro l7 l8  i9 m9_79
              obtain ⟨jhi8_0, -⟩ := i9
              have ul7 := Int32.toInt_lt l7
              have wl7 := Int32.le_toInt l7
              have ul8 := Int32.toInt_lt l8
              have wl8 := Int32.le_toInt l8
              refine wa_iload rfl ?_
              refine wa_iload_n (i := 3) rfl rfl ?_
              refine wa_icmp_ge o_X3_word_127 (by decide) (fun h9 => ?_) (fun h9 => ?_)
              · refine wa_iload_n (i := 1) rfl rfl ?_
                refine wa_if_lt o_X3_word_154 (by decide) (fun h10 => ?_) (fun h10 => ?_)
                · refine wa_iload rfl ?_
                  refine wa_ireturn rfl rfl ?_
                  exact ⟨_, rfl, Fs1, (khi3_0), (khi3_1), trivial⟩
                · refine wa_iload_n (i := 1) rfl rfl ?_
                  refine wa_sipush (v := 2000) (by decide) ?_
                  refine wa_icmp_gt o_X3_word_154 (by decide) (fun h11 => ?_) (fun h11 => ?_)
                  · refine wa_iload rfl ?_
                    refine wa_ireturn rfl rfl ?_
                    exact ⟨_, rfl, Fs1, (khi3_0), (khi3_1), trivial⟩
                  · refine wa_aload_n (i := 0) rfl rfl ?_
                    refine wa_getr ck_3 fl_3_15 ly_18 rf_18_1 ?_
                    refine wa_iload_n (i := 1) rfl rfl ?_
                    refine wa_iload rfl ?_
                    refine wa_iast ly_20 (by ((try simp only [vp_in_iff, Int32.lt_iff_toInt_lt, Int32.le_iff_toInt_le, ← Int32.toInt_inj, Int32.reduceToInt, n_1, n_2, n_8, Int32.toNatClampNeg, Int64.lt_iff_toInt_lt, Int64.le_iff_toInt_le, ← Int64.toInt_inj, Int64.reduceToInt, Int32.toInt_toInt64, lg_cmp_ge, lg_cmp_le, lg_cmp_gt, lg_cmp_lt, lg_cmp_eq, Bool.false_eq_true, Bool.true_eq_false, reduceCtorEq, false_iff, true_iff, iff_true, iff_false, and_true, true_and, and_false, false_and, reduceIte, ite_true, ite_false, eq_self] at *)) <;> omega) (fun s12 hs12 => ?_)
                    have Fs12 : Sm 20 24 σ s12 := by rw [hs12]; exact Sm.si Fs1 _ _ (by decide) (by decide)
                    refine wa_aload_n (i := 0) rfl rfl ?_
                    refine wa_getr ck_3 fl_3_25 ly_18 rf_18_4 ?_
                    refine wa_iload_n (i := 1) rfl rfl ?_
                    refine wa_lload rfl ?_
                    refine wa_last ly_23 (by ((try simp only [vp_in_iff, Int32.lt_iff_toInt_lt, Int32.le_iff_toInt_le, ← Int32.toInt_inj, Int32.reduceToInt, n_1, n_2, n_8, Int32.toNatClampNeg, Int64.lt_iff_toInt_lt, Int64.le_iff_toInt_le, ← Int64.toInt_inj, Int64.reduceToInt, Int32.toInt_toInt64, lg_cmp_ge, lg_cmp_le, lg_cmp_gt, lg_cmp_lt, lg_cmp_eq, Bool.false_eq_true, Bool.true_eq_false, reduceCtorEq, false_iff, true_iff, iff_true, iff_false, and_true, true_and, and_false, false_and, reduceIte, ite_true, ite_false, eq_self] at *)) <;> omega) (fun s13 hs13 => ?_)
                    have Fs13 : Sm 20 24 σ s13 := by rw [hs13]; exact Sm.sl Fs12 _ _ (by decide) (by decide)
                    refine wa_iload rfl ?_
                    refine wa_ireturn rfl rfl ?_
                    exact ⟨_, rfl, Fs13, ((nx_gr_sl hs13).trans ((nx_gr_si hs12).trans (khi3_0))), ((nx_gi_sl hs13).trans ((nxq_gi_si hs12 (by decide)).trans (khi3_1))), trivial⟩
              · have mh9 := nle_mx h9
                refine wa_iload rfl ?_
                refine wa_aload_n (i := 0) rfl rfl ?_
                refine wa_getr ck_3 fl_3_11 ly_18 rf_18_0 ?_
                refine wa_alen ly_19 (by decide) ?_
                refine wa_rw (show Int32.ofNat 20 = 20 from rfl) ?_
                refine wa_icmp_ge o_X3_word_127 (by decide) (fun h14 => ?_) (fun h14 => ?_)
                · refine wa_iload_n (i := 1) rfl rfl ?_
                  refine wa_if_lt o_X3_word_154 (by decide) (fun h15 => ?_) (fun h15 => ?_)
                  · refine wa_iload rfl ?_
                    refine wa_ireturn rfl rfl ?_
                    exact ⟨_, rfl, Fs1, (khi3_0), (khi3_1), trivial⟩
                  · refine wa_iload_n (i := 1) rfl rfl ?_
                    refine wa_sipush (v := 2000) (by decide) ?_
                    refine wa_icmp_gt o_X3_word_154 (by decide) (fun h16 => ?_) (fun h16 => ?_)
                    · refine wa_iload rfl ?_
                      refine wa_ireturn rfl rfl ?_
                      exact ⟨_, rfl, Fs1, (khi3_0), (khi3_1), trivial⟩
                    · refine wa_aload_n (i := 0) rfl rfl ?_
                      refine wa_getr ck_3 fl_3_15 ly_18 rf_18_1 ?_
                      refine wa_iload_n (i := 1) rfl rfl ?_
                      refine wa_iload rfl ?_
                      refine wa_iast ly_20 (by ((try simp only [vp_in_iff, Int32.lt_iff_toInt_lt, Int32.le_iff_toInt_le, ← Int32.toInt_inj, Int32.reduceToInt, n_1, n_2, n_8, Int32.toNatClampNeg, Int64.lt_iff_toInt_lt, Int64.le_iff_toInt_le, ← Int64.toInt_inj, Int64.reduceToInt, Int32.toInt_toInt64, lg_cmp_ge, lg_cmp_le, lg_cmp_gt, lg_cmp_lt, lg_cmp_eq, Bool.false_eq_true, Bool.true_eq_false, reduceCtorEq, false_iff, true_iff, iff_true, iff_false, and_true, true_and, and_false, false_and, reduceIte, ite_true, ite_false, eq_self] at *)) <;> omega) (fun s17 hs17 => ?_)
                      have Fs17 : Sm 20 24 σ s17 := by rw [hs17]; exact Sm.si Fs1 _ _ (by decide) (by decide)
                      refine wa_aload_n (i := 0) rfl rfl ?_
                      refine wa_getr ck_3 fl_3_25 ly_18 rf_18_4 ?_
                      refine wa_iload_n (i := 1) rfl rfl ?_
                      refine wa_lload rfl ?_
                      refine wa_last ly_23 (by ((try simp only [vp_in_iff, Int32.lt_iff_toInt_lt, Int32.le_iff_toInt_le, ← Int32.toInt_inj, Int32.reduceToInt, n_1, n_2, n_8, Int32.toNatClampNeg, Int64.lt_iff_toInt_lt, Int64.le_iff_toInt_le, ← Int64.toInt_inj, Int64.reduceToInt, Int32.toInt_toInt64, lg_cmp_ge, lg_cmp_le, lg_cmp_gt, lg_cmp_lt, lg_cmp_eq, Bool.false_eq_true, Bool.true_eq_false, reduceCtorEq, false_iff, true_iff, iff_true, iff_false, and_true, true_and, and_false, false_and, reduceIte, ite_true, ite_false, eq_self] at *)) <;> omega) (fun s18 hs18 => ?_)
                      have Fs18 : Sm 20 24 σ s18 := by rw [hs18]; exact Sm.sl Fs17 _ _ (by decide) (by decide)
                      refine wa_iload rfl ?_
                      refine wa_ireturn rfl rfl ?_
                      exact ⟨_, rfl, Fs18, ((nx_gr_sl hs18).trans ((nx_gr_si hs17).trans (khi3_0))), ((nx_gi_sl hs18).trans ((nxq_gi_si hs17 (by decide)).trans (khi3_1))), trivial⟩
                · have mh14 := nle_mx h14
                  refine wa_iload rfl ?_
                  refine wa_iconst (v := 1) (by decide) ?_
                  refine wa_icmp_ne o_X3_word_127 (by decide) (fun h19 => ?_) (fun h19 => ?_)
                  · refine wa_iload_n (i := 1) rfl rfl ?_
                    refine wa_if_lt o_X3_word_154 (by decide) (fun h20 => ?_) (fun h20 => ?_)
                    · refine wa_iload rfl ?_
                      refine wa_ireturn rfl rfl ?_
                      exact ⟨_, rfl, Fs1, (khi3_0), (khi3_1), trivial⟩
                    · refine wa_iload_n (i := 1) rfl rfl ?_
                      refine wa_sipush (v := 2000) (by decide) ?_
                      refine wa_icmp_gt o_X3_word_154 (by decide) (fun h21 => ?_) (fun h21 => ?_)
                      · refine wa_iload rfl ?_
                        refine wa_ireturn rfl rfl ?_
                        exact ⟨_, rfl, Fs1, (khi3_0), (khi3_1), trivial⟩
                      · refine wa_aload_n (i := 0) rfl rfl ?_
                        refine wa_getr ck_3 fl_3_15 ly_18 rf_18_1 ?_
                        refine wa_iload_n (i := 1) rfl rfl ?_
                        refine wa_iload rfl ?_
                        refine wa_iast ly_20 (by ((try simp only [vp_in_iff, Int32.lt_iff_toInt_lt, Int32.le_iff_toInt_le, ← Int32.toInt_inj, Int32.reduceToInt, n_1, n_2, n_8, Int32.toNatClampNeg, Int64.lt_iff_toInt_lt, Int64.le_iff_toInt_le, ← Int64.toInt_inj, Int64.reduceToInt, Int32.toInt_toInt64, lg_cmp_ge, lg_cmp_le, lg_cmp_gt, lg_cmp_lt, lg_cmp_eq, Bool.false_eq_true, Bool.true_eq_false, reduceCtorEq, false_iff, true_iff, iff_true, iff_false, and_true, true_and, and_false, false_and, reduceIte, ite_true, ite_false, eq_self] at *)) <;> omega) (fun s22 hs22 => ?_)
                        have Fs22 : Sm 20 24 σ s22 := by rw [hs22]; exact Sm.si Fs1 _ _ (by decide) (by decide)
                        refine wa_aload_n (i := 0) rfl rfl ?_
                        refine wa_getr ck_3 fl_3_25 ly_18 rf_18_4 ?_
                        refine wa_iload_n (i := 1) rfl rfl ?_
                        refine wa_lload rfl ?_
                        refine wa_last ly_23 (by ((try simp only [vp_in_iff, Int32.lt_iff_toInt_lt, Int32.le_iff_toInt_le, ← Int32.toInt_inj, Int32.reduceToInt, n_1, n_2, n_8, Int32.toNatClampNeg, Int64.lt_iff_toInt_lt, Int64.le_iff_toInt_le, ← Int64.toInt_inj, Int64.reduceToInt, Int32.toInt_toInt64, lg_cmp_ge, lg_cmp_le, lg_cmp_gt, lg_cmp_lt, lg_cmp_eq, Bool.false_eq_true, Bool.true_eq_false, reduceCtorEq, false_iff, true_iff, iff_true, iff_false, and_true, true_and, and_false, false_and, reduceIte, ite_true, ite_false, eq_self] at *)) <;> omega) (fun s23 hs23 => ?_)
                        have Fs23 : Sm 20 24 σ s23 := by rw [hs23]; exact Sm.sl Fs22 _ _ (by decide) (by decide)
                        refine wa_iload rfl ?_
                        refine wa_ireturn rfl rfl ?_
                        exact ⟨_, rfl, Fs23, ((nx_gr_sl hs23).trans ((nx_gr_si hs22).trans (khi3_0))), ((nx_gi_sl hs23).trans ((nxq_gi_si hs22 (by decide)).trans (khi3_1))), trivial⟩
                  · refine wa_aload_n (i := 0) rfl rfl ?_
                    refine wa_getr ck_3 fl_3_11 ly_18 rf_18_0 ?_
                    refine wa_iload rfl ?_
                    refine wa_lald ly_19 (by ((try simp only [vp_in_iff, Int32.lt_iff_toInt_lt, Int32.le_iff_toInt_le, ← Int32.toInt_inj, Int32.reduceToInt, n_1, n_2, n_8, Int32.toNatClampNeg, Int64.lt_iff_toInt_lt, Int64.le_iff_toInt_le, ← Int64.toInt_inj, Int64.reduceToInt, Int32.toInt_toInt64, lg_cmp_ge, lg_cmp_le, lg_cmp_gt, lg_cmp_lt, lg_cmp_eq, Bool.false_eq_true, Bool.true_eq_false, reduceCtorEq, false_iff, true_iff, iff_true, iff_false, and_true, true_and, and_false, false_and, reduceIte, ite_true, ite_false, eq_self] at *)) <;> omega) ?_
                    refine wa_lload rfl ?_
                    refine wa_lcmp ?_
                    refine wa_top (fun v24 hv24 => ?_)
                    have tv24 := i_cmpT hv24
                    clear hv24
                    refine wa_if_ne o_X3_word_121 (by decide) (fun h25 => ?_) (fun h25 => ?_)
                    · refine wa_iinc (v := (1)) (lv' := fun y26 => [(8, .int y26), (0, .ref 18), (1, .int a0), (3, .int a2), (4, .long l4), (6, .int l6), (7, .int l7)]) (by decide) rfl (by decide) (fun _ => rfl) (fun y26 hy26 => ?_)
                      have ty26 := i_addT hy26.symm
                      clear hy26
                      refine wa_goto o_X3_word_79 (by decide) ?_
                      refine wa_pick [1, 2, 3, 4, 5, 6, 0] rfl ?_
                      exact ih7 _ (by ((try simp only [vp_in_iff, Int32.lt_iff_toInt_lt, Int32.le_iff_toInt_le, ← Int32.toInt_inj, Int32.reduceToInt, n_1, n_2, n_8, Int32.toNatClampNeg, Int64.lt_iff_toInt_lt, Int64.le_iff_toInt_le, ← Int64.toInt_inj, Int64.reduceToInt, Int32.toInt_toInt64, lg_cmp_ge, lg_cmp_le, lg_cmp_gt, lg_cmp_lt, lg_cmp_eq, Bool.false_eq_true, Bool.true_eq_false, reduceCtorEq, false_iff, true_iff, iff_true, iff_false, and_true, true_and, and_false, false_and, reduceIte, ite_true, ite_false, eq_self] at *)) <;> omega) _ _ ⟨(by ((try simp only [vp_in_iff, Int32.lt_iff_toInt_lt, Int32.le_iff_toInt_le, ← Int32.toInt_inj, Int32.reduceToInt, n_1, n_2, n_8, Int32.toNatClampNeg, Int64.lt_iff_toInt_lt, Int64.le_iff_toInt_le, ← Int64.toInt_inj, Int64.reduceToInt, Int32.toInt_toInt64, lg_cmp_ge, lg_cmp_le, lg_cmp_gt, lg_cmp_lt, lg_cmp_eq, Bool.false_eq_true, Bool.true_eq_false, reduceCtorEq, false_iff, true_iff, iff_true, iff_false, and_true, true_and, and_false, false_and, reduceIte, ite_true, ite_false, eq_self] at *)) <;> omega), trivial⟩ rfl
                    · refine wa_bipush (v := 21) (by decide) ?_
                      refine wa_iload rfl ?_
                      refine wa_iadd ?_
                      refine wa_top (fun v27 hv27 => ?_)
                      have tv27 := i_addT hv27
                      clear hv27
                      refine wa_istoreD (lv' := [(7, .int v27), (0, .ref 18), (1, .int a0), (3, .int a2), (4, .long l4), (6, .int l6), (8, .int l8)]) (by decide) rfl ?_
                      refine wa_iinc (v := (1)) (lv' := fun y28 => [(8, .int y28), (7, .int v27), (0, .ref 18), (1, .int a0), (3, .int a2), (4, .long l4), (6, .int l6)]) (by decide) rfl (by decide) (fun _ => rfl) (fun y28 hy28 => ?_)
                      have ty28 := i_addT hy28.symm
                      clear hy28
                      refine wa_goto o_X3_word_79 (by decide) ?_
                      refine wa_pick [2, 3, 4, 5, 6, 1, 0] rfl ?_
                      exact ih7 _ (by ((try simp only [vp_in_iff, Int32.lt_iff_toInt_lt, Int32.le_iff_toInt_le, ← Int32.toInt_inj, Int32.reduceToInt, n_1, n_2, n_8, Int32.toNatClampNeg, Int64.lt_iff_toInt_lt, Int64.le_iff_toInt_le, ← Int64.toInt_inj, Int64.reduceToInt, Int32.toInt_toInt64, lg_cmp_ge, lg_cmp_le, lg_cmp_gt, lg_cmp_lt, lg_cmp_eq, Bool.false_eq_true, Bool.true_eq_false, reduceCtorEq, false_iff, true_iff, iff_true, iff_false, and_true, true_and, and_false, false_and, reduceIte, ite_true, ite_false, eq_self] at *)) <;> omega) _ _ ⟨(by ((try simp only [vp_in_iff, Int32.lt_iff_toInt_lt, Int32.le_iff_toInt_le, ← Int32.toInt_inj, Int32.reduceToInt, n_1, n_2, n_8, Int32.toNatClampNeg, Int64.lt_iff_toInt_lt, Int64.le_iff_toInt_le, ← Int64.toInt_inj, Int64.reduceToInt, Int32.toInt_toInt64, lg_cmp_ge, lg_cmp_le, lg_cmp_gt, lg_cmp_lt, lg_cmp_eq, Bool.false_eq_true, Bool.true_eq_false, reduceCtorEq, false_iff, true_iff, iff_true, iff_false, and_true, true_and, and_false, false_and, reduceIte, ite_true, ite_false, eq_self] at *)) <;> omega), trivial⟩ rfl
          exact hi8 _ _ _ ⟨(by ((try simp only [vp_in_iff, Int32.lt_iff_toInt_lt, Int32.le_iff_toInt_le, ← Int32.toInt_inj, Int32.reduceToInt, n_1, n_2, n_8, Int32.toNatClampNeg, Int64.lt_iff_toInt_lt, Int64.le_iff_toInt_le, ← Int64.toInt_inj, Int64.reduceToInt, Int32.toInt_toInt64, lg_cmp_ge, lg_cmp_le, lg_cmp_gt, lg_cmp_lt, lg_cmp_eq, Bool.false_eq_true, Bool.true_eq_false, reduceCtorEq, false_iff, true_iff, iff_true, iff_false, and_true, true_and, and_false, false_and, reduceIte, ite_true, ite_false, eq_self] at *)) <;> omega), trivial⟩ rfl
        · refine wa_iconst (v := 3) (by decide) ?_
          refine wa_goto o_X3_word_74 (by decide) ?_
          refine wa_istoreD (lv' := [(7, .int 3), (0, .ref 18), (1, .int a0), (2, .int a1), (3, .int a2), (4, .long l4), (6, .int l6)]) (by decide) rfl ?_
          refine wa_iconst (v := 0) (by decide) ?_
          refine wa_istoreD (lv' := [(8, .int 0), (7, .int 3), (0, .ref 18), (1, .int a0), (2, .int a1), (3, .int a2), (4, .long l4), (6, .int l6)]) (by decide) rfl ?_
          refine wa_pick [2, 3, 5, 6, 7, 1, 0] rfl ?_
          have hi30 : ∀ (n9_79 : Nat) (l7 : Int32) (l8 : Int32), ((0 ≤ l8.toInt) ∧ (True)) → (2147483647 - l8.toInt).toNat = n9_79 → WA G M_X3_word (ZM G M_X3_word d (fun r σ' => ∃ x : Int32, r = some (.int x) ∧ Sm 20 24 σ σ' ∧ (gr σ' 18 6 = gr σ 18 6) ∧ (gi σ' 18 5 = gi σ 18 5) ∧ True)) B_X3_word_79 [(0, .ref 18), (1, .int a0), (3, .int a2), (4, .long l4), (6, .int l6), (7, .int l7), (8, .int l8)] [] s1 := by
            intro n9_79
            induction n9_79 using Nat.strongRecOn with
            | _ n9_79 ih29 =>
              intro l7 l8  i9 m9_79
              obtain ⟨jhi30_0, -⟩ := i9
              have ul7 := Int32.toInt_lt l7
              have wl7 := Int32.le_toInt l7
              have ul8 := Int32.toInt_lt l8
              have wl8 := Int32.le_toInt l8
              refine wa_iload rfl ?_
              refine wa_iload_n (i := 3) rfl rfl ?_
              refine wa_icmp_ge o_X3_word_127 (by decide) (fun h31 => ?_) (fun h31 => ?_)
              · refine wa_iload_n (i := 1) rfl rfl ?_
                refine wa_if_lt o_X3_word_154 (by decide) (fun h32 => ?_) (fun h32 => ?_)
                · refine wa_iload rfl ?_
                  refine wa_ireturn rfl rfl ?_
                  exact ⟨_, rfl, Fs1, (khi3_0), (khi3_1), trivial⟩
                · refine wa_iload_n (i := 1) rfl rfl ?_
                  refine wa_sipush (v := 2000) (by decide) ?_
                  refine wa_icmp_gt o_X3_word_154 (by decide) (fun h33 => ?_) (fun h33 => ?_)
                  · refine wa_iload rfl ?_
                    refine wa_ireturn rfl rfl ?_
                    exact ⟨_, rfl, Fs1, (khi3_0), (khi3_1), trivial⟩
                  · refine wa_aload_n (i := 0) rfl rfl ?_
                    refine wa_getr ck_3 fl_3_15 ly_18 rf_18_1 ?_
                    refine wa_iload_n (i := 1) rfl rfl ?_
                    refine wa_iload rfl ?_
                    refine wa_iast ly_20 (by ((try simp only [vp_in_iff, Int32.lt_iff_toInt_lt, Int32.le_iff_toInt_le, ← Int32.toInt_inj, Int32.reduceToInt, n_1, n_2, n_8, Int32.toNatClampNeg, Int64.lt_iff_toInt_lt, Int64.le_iff_toInt_le, ← Int64.toInt_inj, Int64.reduceToInt, Int32.toInt_toInt64, lg_cmp_ge, lg_cmp_le, lg_cmp_gt, lg_cmp_lt, lg_cmp_eq, Bool.false_eq_true, Bool.true_eq_false, reduceCtorEq, false_iff, true_iff, iff_true, iff_false, and_true, true_and, and_false, false_and, reduceIte, ite_true, ite_false, eq_self] at *)) <;> omega) (fun s34 hs34 => ?_)
                    have Fs34 : Sm 20 24 σ s34 := by rw [hs34]; exact Sm.si Fs1 _ _ (by decide) (by decide)
                    refine wa_aload_n (i := 0) rfl rfl ?_
                    refine wa_getr ck_3 fl_3_25 ly_18 rf_18_4 ?_
                    refine wa_iload_n (i := 1) rfl rfl ?_
                    refine wa_lload rfl ?_
                    refine wa_last ly_23 (by ((try simp only [vp_in_iff, Int32.lt_iff_toInt_lt, Int32.le_iff_toInt_le, ← Int32.toInt_inj, Int32.reduceToInt, n_1, n_2, n_8, Int32.toNatClampNeg, Int64.lt_iff_toInt_lt, Int64.le_iff_toInt_le, ← Int64.toInt_inj, Int64.reduceToInt, Int32.toInt_toInt64, lg_cmp_ge, lg_cmp_le, lg_cmp_gt, lg_cmp_lt, lg_cmp_eq, Bool.false_eq_true, Bool.true_eq_false, reduceCtorEq, false_iff, true_iff, iff_true, iff_false, and_true, true_and, and_false, false_and, reduceIte, ite_true, ite_false, eq_self] at *)) <;> omega) (fun s35 hs35 => ?_)
                    have Fs35 : Sm 20 24 σ s35 := by rw [hs35]; exact Sm.sl Fs34 _ _ (by decide) (by decide)
                    refine wa_iload rfl ?_
                    refine wa_ireturn rfl rfl ?_
                    exact ⟨_, rfl, Fs35, ((nx_gr_sl hs35).trans ((nx_gr_si hs34).trans (khi3_0))), ((nx_gi_sl hs35).trans ((nxq_gi_si hs34 (by decide)).trans (khi3_1))), trivial⟩
              · have mh31 := nle_mx h31
                refine wa_iload rfl ?_
                refine wa_aload_n (i := 0) rfl rfl ?_
                refine wa_getr ck_3 fl_3_11 ly_18 rf_18_0 ?_
                refine wa_alen ly_19 (by decide) ?_
                refine wa_rw (show Int32.ofNat 20 = 20 from rfl) ?_
                refine wa_icmp_ge o_X3_word_127 (by decide) (fun h36 => ?_) (fun h36 => ?_)
                · refine wa_iload_n (i := 1) rfl rfl ?_
                  refine wa_if_lt o_X3_word_154 (by decide) (fun h37 => ?_) (fun h37 => ?_)
                  · refine wa_iload rfl ?_
                    refine wa_ireturn rfl rfl ?_
                    exact ⟨_, rfl, Fs1, (khi3_0), (khi3_1), trivial⟩
                  · refine wa_iload_n (i := 1) rfl rfl ?_
                    refine wa_sipush (v := 2000) (by decide) ?_
                    refine wa_icmp_gt o_X3_word_154 (by decide) (fun h38 => ?_) (fun h38 => ?_)
                    · refine wa_iload rfl ?_
                      refine wa_ireturn rfl rfl ?_
                      exact ⟨_, rfl, Fs1, (khi3_0), (khi3_1), trivial⟩
                    · refine wa_aload_n (i := 0) rfl rfl ?_
                      refine wa_getr ck_3 fl_3_15 ly_18 rf_18_1 ?_
                      refine wa_iload_n (i := 1) rfl rfl ?_
                      refine wa_iload rfl ?_
                      refine wa_iast ly_20 (by ((try simp only [vp_in_iff, Int32.lt_iff_toInt_lt, Int32.le_iff_toInt_le, ← Int32.toInt_inj, Int32.reduceToInt, n_1, n_2, n_8, Int32.toNatClampNeg, Int64.lt_iff_toInt_lt, Int64.le_iff_toInt_le, ← Int64.toInt_inj, Int64.reduceToInt, Int32.toInt_toInt64, lg_cmp_ge, lg_cmp_le, lg_cmp_gt, lg_cmp_lt, lg_cmp_eq, Bool.false_eq_true, Bool.true_eq_false, reduceCtorEq, false_iff, true_iff, iff_true, iff_false, and_true, true_and, and_false, false_and, reduceIte, ite_true, ite_false, eq_self] at *)) <;> omega) (fun s39 hs39 => ?_)
                      have Fs39 : Sm 20 24 σ s39 := by rw [hs39]; exact Sm.si Fs1 _ _ (by decide) (by decide)
                      refine wa_aload_n (i := 0) rfl rfl ?_
                      refine wa_getr ck_3 fl_3_25 ly_18 rf_18_4 ?_
                      refine wa_iload_n (i := 1) rfl rfl ?_
                      refine wa_lload rfl ?_
                      refine wa_last ly_23 (by ((try simp only [vp_in_iff, Int32.lt_iff_toInt_lt, Int32.le_iff_toInt_le, ← Int32.toInt_inj, Int32.reduceToInt, n_1, n_2, n_8, Int32.toNatClampNeg, Int64.lt_iff_toInt_lt, Int64.le_iff_toInt_le, ← Int64.toInt_inj, Int64.reduceToInt, Int32.toInt_toInt64, lg_cmp_ge, lg_cmp_le, lg_cmp_gt, lg_cmp_lt, lg_cmp_eq, Bool.false_eq_true, Bool.true_eq_false, reduceCtorEq, false_iff, true_iff, iff_true, iff_false, and_true, true_and, and_false, false_and, reduceIte, ite_true, ite_false, eq_self] at *)) <;> omega) (fun s40 hs40 => ?_)
                      have Fs40 : Sm 20 24 σ s40 := by rw [hs40]; exact Sm.sl Fs39 _ _ (by decide) (by decide)
                      refine wa_iload rfl ?_
                      refine wa_ireturn rfl rfl ?_
                      exact ⟨_, rfl, Fs40, ((nx_gr_sl hs40).trans ((nx_gr_si hs39).trans (khi3_0))), ((nx_gi_sl hs40).trans ((nxq_gi_si hs39 (by decide)).trans (khi3_1))), trivial⟩
                · have mh36 := nle_mx h36
                  refine wa_iload rfl ?_
                  refine wa_iconst (v := 1) (by decide) ?_
                  refine wa_icmp_ne o_X3_word_127 (by decide) (fun h41 => ?_) (fun h41 => ?_)
                  · refine wa_iload_n (i := 1) rfl rfl ?_
                    refine wa_if_lt o_X3_word_154 (by decide) (fun h42 => ?_) (fun h42 => ?_)
                    · refine wa_iload rfl ?_
                      refine wa_ireturn rfl rfl ?_
                      exact ⟨_, rfl, Fs1, (khi3_0), (khi3_1), trivial⟩
                    · refine wa_iload_n (i := 1) rfl rfl ?_
                      refine wa_sipush (v := 2000) (by decide) ?_
                      refine wa_icmp_gt o_X3_word_154 (by decide) (fun h43 => ?_) (fun h43 => ?_)
                      · refine wa_iload rfl ?_
                        refine wa_ireturn rfl rfl ?_
                        exact ⟨_, rfl, Fs1, (khi3_0), (khi3_1), trivial⟩
                      · refine wa_aload_n (i := 0) rfl rfl ?_
                        refine wa_getr ck_3 fl_3_15 ly_18 rf_18_1 ?_
                        refine wa_iload_n (i := 1) rfl rfl ?_
                        refine wa_iload rfl ?_
                        refine wa_iast ly_20 (by ((try simp only [vp_in_iff, Int32.lt_iff_toInt_lt, Int32.le_iff_toInt_le, ← Int32.toInt_inj, Int32.reduceToInt, n_1, n_2, n_8, Int32.toNatClampNeg, Int64.lt_iff_toInt_lt, Int64.le_iff_toInt_le, ← Int64.toInt_inj, Int64.reduceToInt, Int32.toInt_toInt64, lg_cmp_ge, lg_cmp_le, lg_cmp_gt, lg_cmp_lt, lg_cmp_eq, Bool.false_eq_true, Bool.true_eq_false, reduceCtorEq, false_iff, true_iff, iff_true, iff_false, and_true, true_and, and_false, false_and, reduceIte, ite_true, ite_false, eq_self] at *)) <;> omega) (fun s44 hs44 => ?_)
                        have Fs44 : Sm 20 24 σ s44 := by rw [hs44]; exact Sm.si Fs1 _ _ (by decide) (by decide)
                        refine wa_aload_n (i := 0) rfl rfl ?_
                        refine wa_getr ck_3 fl_3_25 ly_18 rf_18_4 ?_
                        refine wa_iload_n (i := 1) rfl rfl ?_
                        refine wa_lload rfl ?_
                        refine wa_last ly_23 (by ((try simp only [vp_in_iff, Int32.lt_iff_toInt_lt, Int32.le_iff_toInt_le, ← Int32.toInt_inj, Int32.reduceToInt, n_1, n_2, n_8, Int32.toNatClampNeg, Int64.lt_iff_toInt_lt, Int64.le_iff_toInt_le, ← Int64.toInt_inj, Int64.reduceToInt, Int32.toInt_toInt64, lg_cmp_ge, lg_cmp_le, lg_cmp_gt, lg_cmp_lt, lg_cmp_eq, Bool.false_eq_true, Bool.true_eq_false, reduceCtorEq, false_iff, true_iff, iff_true, iff_false, and_true, true_and, and_false, false_and, reduceIte, ite_true, ite_false, eq_self] at *)) <;> omega) (fun s45 hs45 => ?_)
                        have Fs45 : Sm 20 24 σ s45 := by rw [hs45]; exact Sm.sl Fs44 _ _ (by decide) (by decide)
                        refine wa_iload rfl ?_
                        refine wa_ireturn rfl rfl ?_
                        exact ⟨_, rfl, Fs45, ((nx_gr_sl hs45).trans ((nx_gr_si hs44).trans (khi3_0))), ((nx_gi_sl hs45).trans ((nxq_gi_si hs44 (by decide)).trans (khi3_1))), trivial⟩
                  · refine wa_aload_n (i := 0) rfl rfl ?_
                    refine wa_getr ck_3 fl_3_11 ly_18 rf_18_0 ?_
                    refine wa_iload rfl ?_
                    refine wa_lald ly_19 (by ((try simp only [vp_in_iff, Int32.lt_iff_toInt_lt, Int32.le_iff_toInt_le, ← Int32.toInt_inj, Int32.reduceToInt, n_1, n_2, n_8, Int32.toNatClampNeg, Int64.lt_iff_toInt_lt, Int64.le_iff_toInt_le, ← Int64.toInt_inj, Int64.reduceToInt, Int32.toInt_toInt64, lg_cmp_ge, lg_cmp_le, lg_cmp_gt, lg_cmp_lt, lg_cmp_eq, Bool.false_eq_true, Bool.true_eq_false, reduceCtorEq, false_iff, true_iff, iff_true, iff_false, and_true, true_and, and_false, false_and, reduceIte, ite_true, ite_false, eq_self] at *)) <;> omega) ?_
                    refine wa_lload rfl ?_
                    refine wa_lcmp ?_
                    refine wa_top (fun v46 hv46 => ?_)
                    have tv46 := i_cmpT hv46
                    clear hv46
                    refine wa_if_ne o_X3_word_121 (by decide) (fun h47 => ?_) (fun h47 => ?_)
                    · refine wa_iinc (v := (1)) (lv' := fun y48 => [(8, .int y48), (0, .ref 18), (1, .int a0), (3, .int a2), (4, .long l4), (6, .int l6), (7, .int l7)]) (by decide) rfl (by decide) (fun _ => rfl) (fun y48 hy48 => ?_)
                      have ty48 := i_addT hy48.symm
                      clear hy48
                      refine wa_goto o_X3_word_79 (by decide) ?_
                      refine wa_pick [1, 2, 3, 4, 5, 6, 0] rfl ?_
                      exact ih29 _ (by ((try simp only [vp_in_iff, Int32.lt_iff_toInt_lt, Int32.le_iff_toInt_le, ← Int32.toInt_inj, Int32.reduceToInt, n_1, n_2, n_8, Int32.toNatClampNeg, Int64.lt_iff_toInt_lt, Int64.le_iff_toInt_le, ← Int64.toInt_inj, Int64.reduceToInt, Int32.toInt_toInt64, lg_cmp_ge, lg_cmp_le, lg_cmp_gt, lg_cmp_lt, lg_cmp_eq, Bool.false_eq_true, Bool.true_eq_false, reduceCtorEq, false_iff, true_iff, iff_true, iff_false, and_true, true_and, and_false, false_and, reduceIte, ite_true, ite_false, eq_self] at *)) <;> omega) _ _ ⟨(by ((try simp only [vp_in_iff, Int32.lt_iff_toInt_lt, Int32.le_iff_toInt_le, ← Int32.toInt_inj, Int32.reduceToInt, n_1, n_2, n_8, Int32.toNatClampNeg, Int64.lt_iff_toInt_lt, Int64.le_iff_toInt_le, ← Int64.toInt_inj, Int64.reduceToInt, Int32.toInt_toInt64, lg_cmp_ge, lg_cmp_le, lg_cmp_gt, lg_cmp_lt, lg_cmp_eq, Bool.false_eq_true, Bool.true_eq_false, reduceCtorEq, false_iff, true_iff, iff_true, iff_false, and_true, true_and, and_false, false_and, reduceIte, ite_true, ite_false, eq_self] at *)) <;> omega), trivial⟩ rfl
                    · refine wa_bipush (v := 21) (by decide) ?_
                      refine wa_iload rfl ?_
                      refine wa_iadd ?_
                      refine wa_top (fun v49 hv49 => ?_)
                      have tv49 := i_addT hv49
                      clear hv49
                      refine wa_istoreD (lv' := [(7, .int v49), (0, .ref 18), (1, .int a0), (3, .int a2), (4, .long l4), (6, .int l6), (8, .int l8)]) (by decide) rfl ?_
                      refine wa_iinc (v := (1)) (lv' := fun y50 => [(8, .int y50), (7, .int v49), (0, .ref 18), (1, .int a0), (3, .int a2), (4, .long l4), (6, .int l6)]) (by decide) rfl (by decide) (fun _ => rfl) (fun y50 hy50 => ?_)
                      have ty50 := i_addT hy50.symm
                      clear hy50
                      refine wa_goto o_X3_word_79 (by decide) ?_
                      refine wa_pick [2, 3, 4, 5, 6, 1, 0] rfl ?_
                      exact ih29 _ (by ((try simp only [vp_in_iff, Int32.lt_iff_toInt_lt, Int32.le_iff_toInt_le, ← Int32.toInt_inj, Int32.reduceToInt, n_1, n_2, n_8, Int32.toNatClampNeg, Int64.lt_iff_toInt_lt, Int64.le_iff_toInt_le, ← Int64.toInt_inj, Int64.reduceToInt, Int32.toInt_toInt64, lg_cmp_ge, lg_cmp_le, lg_cmp_gt, lg_cmp_lt, lg_cmp_eq, Bool.false_eq_true, Bool.true_eq_false, reduceCtorEq, false_iff, true_iff, iff_true, iff_false, and_true, true_and, and_false, false_and, reduceIte, ite_true, ite_false, eq_self] at *)) <;> omega) _ _ ⟨(by ((try simp only [vp_in_iff, Int32.lt_iff_toInt_lt, Int32.le_iff_toInt_le, ← Int32.toInt_inj, Int32.reduceToInt, n_1, n_2, n_8, Int32.toNatClampNeg, Int64.lt_iff_toInt_lt, Int64.le_iff_toInt_le, ← Int64.toInt_inj, Int64.reduceToInt, Int32.toInt_toInt64, lg_cmp_ge, lg_cmp_le, lg_cmp_gt, lg_cmp_lt, lg_cmp_eq, Bool.false_eq_true, Bool.true_eq_false, reduceCtorEq, false_iff, true_iff, iff_true, iff_false, and_true, true_and, and_false, false_and, reduceIte, ite_true, ite_false, eq_self] at *)) <;> omega), trivial⟩ rfl
          exact hi30 _ _ _ ⟨(by ((try simp only [vp_in_iff, Int32.lt_iff_toInt_lt, Int32.le_iff_toInt_le, ← Int32.toInt_inj, Int32.reduceToInt, n_1, n_2, n_8, Int32.toNatClampNeg, Int64.lt_iff_toInt_lt, Int64.le_iff_toInt_le, ← Int64.toInt_inj, Int64.reduceToInt, Int32.toInt_toInt64, lg_cmp_ge, lg_cmp_le, lg_cmp_gt, lg_cmp_lt, lg_cmp_eq, Bool.false_eq_true, Bool.true_eq_false, reduceCtorEq, false_iff, true_iff, iff_true, iff_false, and_true, true_and, and_false, false_and, reduceIte, ite_true, ite_false, eq_self] at *)) <;> omega), trivial⟩ rfl
      · have mh4 := nle_mx h4
        refine wa_aload_n (i := 0) rfl rfl ?_
        refine wa_iload rfl ?_
        refine wa_Vi (d9 := d - 1) [.int _] [] (sp_X3_byteAt G (d := d - 1) (by omega) s1 _ (by rw [khi3_0]; first | assumption | exact Or.inl rfl | exact Or.inr rfl | (((try simp only [vp_in_iff, Int32.lt_iff_toInt_lt, Int32.le_iff_toInt_le, ← Int32.toInt_inj, Int32.reduceToInt, n_1, n_2, n_8, Int32.toNatClampNeg, Int64.lt_iff_toInt_lt, Int64.le_iff_toInt_le, ← Int64.toInt_inj, Int64.reduceToInt, Int32.toInt_toInt64, lg_cmp_ge, lg_cmp_le, lg_cmp_gt, lg_cmp_lt, lg_cmp_eq, Bool.false_eq_true, Bool.true_eq_false, reduceCtorEq, false_iff, true_iff, iff_true, iff_false, and_true, true_and, and_false, false_and, reduceIte, ite_true, ite_false, eq_self] at *)) <;> omega))) (rfl) rfl rfl (zr (by omega)) mk_X3_byteAt ly_18 ml_3_63 (Nat.le_of_ble_eq_true rfl) (fun x52 s51 hs51 => ?_)
        obtain ⟨zs51, -⟩ := pI hs51
        subst zs51
        refine wa_Si (d9 := d - 1) [.int _] [] (sp_X3_isLetter G (d := d - 1) (by omega) s1 _) (rfl) rfl rfl (zr (by omega)) mk_X3_isLetter ml_3_66 (Nat.le_of_ble_eq_true rfl) (fun x54 s53 hs53 => ?_)
        obtain ⟨bx54, ex54, zs53, -⟩ := pB hs53
        subst ex54
        subst zs53
        refine wa_if_ne o_X3_word_39 (by decide) (fun h55 => ?_) (fun h55 => ?_)
        · replace h55 := bI_t (b := bx54) (rfl) h55
          refine wa_lload rfl ?_
          refine wa_bipush (v := 8) (by decide) ?_
          refine wa_lshl ?_
          refine wa_topl (fun v56 hv56 => ?_)
          clear hv56
          refine wa_aload_n (i := 0) rfl rfl ?_
          refine wa_iload rfl ?_
          refine wa_Vi (d9 := d - 1) [.int _] [.long v56] (sp_X3_byteAt G (d := d - 1) (by omega) s1 _ (by rw [khi3_0]; first | assumption | exact Or.inl rfl | exact Or.inr rfl | (((try simp only [vp_in_iff, Int32.lt_iff_toInt_lt, Int32.le_iff_toInt_le, ← Int32.toInt_inj, Int32.reduceToInt, n_1, n_2, n_8, Int32.toNatClampNeg, Int64.lt_iff_toInt_lt, Int64.le_iff_toInt_le, ← Int64.toInt_inj, Int64.reduceToInt, Int32.toInt_toInt64, lg_cmp_ge, lg_cmp_le, lg_cmp_gt, lg_cmp_lt, lg_cmp_eq, Bool.false_eq_true, Bool.true_eq_false, reduceCtorEq, false_iff, true_iff, iff_true, iff_false, and_true, true_and, and_false, false_and, reduceIte, ite_true, ite_false, eq_self] at *)) <;> omega))) (rfl) rfl rfl (zr (by omega)) mk_X3_byteAt ly_18 ml_3_63 (Nat.le_of_ble_eq_true rfl) (fun x58 s57 hs57 => ?_)
          obtain ⟨zs57, -⟩ := pI hs57
          subst zs57
          refine wa_i2l ?_
          refine wa_lor ?_
          refine wa_topl (fun v59 hv59 => ?_)
          clear hv59
          refine wa_lstoreD (lv' := [(4, .long v59), (0, .ref 18), (1, .int a0), (2, .int a1), (3, .int a2), (6, .int l6)]) (by decide) rfl ?_
          refine wa_iinc (v := (1)) (lv' := fun y60 => [(6, .int y60), (4, .long v59), (0, .ref 18), (1, .int a0), (2, .int a1), (3, .int a2)]) (by decide) rfl (by decide) (fun _ => rfl) (fun y60 hy60 => ?_)
          have ty60 := i_addT hy60.symm
          clear hy60
          refine wa_goto o_X3_word_6 (by decide) ?_
          refine wa_pick [2, 3, 4, 5, 1, 0] rfl ?_
          exact ih2 _ (by ((try simp only [vp_in_iff, Int32.lt_iff_toInt_lt, Int32.le_iff_toInt_le, ← Int32.toInt_inj, Int32.reduceToInt, n_1, n_2, n_8, Int32.toNatClampNeg, Int64.lt_iff_toInt_lt, Int64.le_iff_toInt_le, ← Int64.toInt_inj, Int64.reduceToInt, Int32.toInt_toInt64, lg_cmp_ge, lg_cmp_le, lg_cmp_gt, lg_cmp_lt, lg_cmp_eq, Bool.false_eq_true, Bool.true_eq_false, reduceCtorEq, false_iff, true_iff, iff_true, iff_false, and_true, true_and, and_false, false_and, reduceIte, ite_true, ite_false, eq_self] at *)) <;> omega) _ _ _ ⟨Fs1, (khi3_0), (khi3_1), (khi3_2), trivial⟩ rfl
        · replace h55 := bI_f (b := bx54) (rfl) h55
          refine wa_aload_n (i := 0) rfl rfl ?_
          refine wa_iload rfl ?_
          refine wa_Vi (d9 := d - 1) [.int _] [] (sp_X3_byteAt G (d := d - 1) (by omega) s1 _ (by rw [khi3_0]; first | assumption | exact Or.inl rfl | exact Or.inr rfl | (((try simp only [vp_in_iff, Int32.lt_iff_toInt_lt, Int32.le_iff_toInt_le, ← Int32.toInt_inj, Int32.reduceToInt, n_1, n_2, n_8, Int32.toNatClampNeg, Int64.lt_iff_toInt_lt, Int64.le_iff_toInt_le, ← Int64.toInt_inj, Int64.reduceToInt, Int32.toInt_toInt64, lg_cmp_ge, lg_cmp_le, lg_cmp_gt, lg_cmp_lt, lg_cmp_eq, Bool.false_eq_true, Bool.true_eq_false, reduceCtorEq, false_iff, true_iff, iff_true, iff_false, and_true, true_and, and_false, false_and, reduceIte, ite_true, ite_false, eq_self] at *)) <;> omega))) (rfl) rfl rfl (zr (by omega)) mk_X3_byteAt ly_18 ml_3_63 (Nat.le_of_ble_eq_true rfl) (fun x62 s61 hs61 => ?_)
          obtain ⟨zs61, -⟩ := pI hs61
          subst zs61
          refine wa_Si (d9 := d - 1) [.int _] [] (sp_X3_isDigit G (d := d - 1) (by omega) s1 _) (rfl) rfl rfl (zr (by omega)) mk_X3_isDigit ml_3_74 (Nat.le_of_ble_eq_true rfl) (fun x64 s63 hs63 => ?_)
          obtain ⟨bx64, ex64, zs63, -⟩ := pB hs63
          subst ex64
          subst zs63
          refine wa_if_eq o_X3_word_60 (by decide) (fun h65 => ?_) (fun h65 => ?_)
          · replace h65 := bI_f (b := bx64) (rfl) h65
            refine wa_iload rfl ?_
            refine wa_iload_n (i := 2) rfl rfl ?_
            refine wa_isub ?_
            refine wa_top (fun v66 hv66 => ?_)
            have tv66 := i_subT hv66
            clear hv66
            refine wa_bipush (v := 8) (by decide) ?_
            refine wa_icmp_le o_X3_word_73 (by decide) (fun h67 => ?_) (fun h67 => ?_)
            · refine wa_iconst (v := 1) (by decide) ?_
              refine wa_istoreD (lv' := [(7, .int 1), (0, .ref 18), (1, .int a0), (2, .int a1), (3, .int a2), (4, .long l4), (6, .int l6)]) (by decide) rfl ?_
              refine wa_iconst (v := 0) (by decide) ?_
              refine wa_istoreD (lv' := [(8, .int 0), (7, .int 1), (0, .ref 18), (1, .int a0), (2, .int a1), (3, .int a2), (4, .long l4), (6, .int l6)]) (by decide) rfl ?_
              refine wa_pick [2, 3, 5, 6, 7, 1, 0] rfl ?_
              have hi69 : ∀ (n9_79 : Nat) (l7 : Int32) (l8 : Int32), ((0 ≤ l8.toInt) ∧ (True)) → (2147483647 - l8.toInt).toNat = n9_79 → WA G M_X3_word (ZM G M_X3_word d (fun r σ' => ∃ x : Int32, r = some (.int x) ∧ Sm 20 24 σ σ' ∧ (gr σ' 18 6 = gr σ 18 6) ∧ (gi σ' 18 5 = gi σ 18 5) ∧ True)) B_X3_word_79 [(0, .ref 18), (1, .int a0), (3, .int a2), (4, .long l4), (6, .int l6), (7, .int l7), (8, .int l8)] [] s1 := by
                intro n9_79
                induction n9_79 using Nat.strongRecOn with
                | _ n9_79 ih68 =>
                  intro l7 l8  i9 m9_79
                  obtain ⟨jhi69_0, -⟩ := i9
                  have ul7 := Int32.toInt_lt l7
                  have wl7 := Int32.le_toInt l7
                  have ul8 := Int32.toInt_lt l8
                  have wl8 := Int32.le_toInt l8
                  refine wa_iload rfl ?_
                  refine wa_iload_n (i := 3) rfl rfl ?_
                  refine wa_icmp_ge o_X3_word_127 (by decide) (fun h70 => ?_) (fun h70 => ?_)
                  · refine wa_iload_n (i := 1) rfl rfl ?_
                    refine wa_if_lt o_X3_word_154 (by decide) (fun h71 => ?_) (fun h71 => ?_)
                    · refine wa_iload rfl ?_
                      refine wa_ireturn rfl rfl ?_
                      exact ⟨_, rfl, Fs1, (khi3_0), (khi3_1), trivial⟩
                    · refine wa_iload_n (i := 1) rfl rfl ?_
                      refine wa_sipush (v := 2000) (by decide) ?_
                      refine wa_icmp_gt o_X3_word_154 (by decide) (fun h72 => ?_) (fun h72 => ?_)
                      · refine wa_iload rfl ?_
                        refine wa_ireturn rfl rfl ?_
                        exact ⟨_, rfl, Fs1, (khi3_0), (khi3_1), trivial⟩
                      · refine wa_aload_n (i := 0) rfl rfl ?_
                        refine wa_getr ck_3 fl_3_15 ly_18 rf_18_1 ?_
                        refine wa_iload_n (i := 1) rfl rfl ?_
                        refine wa_iload rfl ?_
                        refine wa_iast ly_20 (by ((try simp only [vp_in_iff, Int32.lt_iff_toInt_lt, Int32.le_iff_toInt_le, ← Int32.toInt_inj, Int32.reduceToInt, n_1, n_2, n_8, Int32.toNatClampNeg, Int64.lt_iff_toInt_lt, Int64.le_iff_toInt_le, ← Int64.toInt_inj, Int64.reduceToInt, Int32.toInt_toInt64, lg_cmp_ge, lg_cmp_le, lg_cmp_gt, lg_cmp_lt, lg_cmp_eq, Bool.false_eq_true, Bool.true_eq_false, reduceCtorEq, false_iff, true_iff, iff_true, iff_false, and_true, true_and, and_false, false_and, reduceIte, ite_true, ite_false, eq_self] at *)) <;> omega) (fun s73 hs73 => ?_)
                        have Fs73 : Sm 20 24 σ s73 := by rw [hs73]; exact Sm.si Fs1 _ _ (by decide) (by decide)
                        refine wa_aload_n (i := 0) rfl rfl ?_
                        refine wa_getr ck_3 fl_3_25 ly_18 rf_18_4 ?_
                        refine wa_iload_n (i := 1) rfl rfl ?_
                        refine wa_lload rfl ?_
                        refine wa_last ly_23 (by ((try simp only [vp_in_iff, Int32.lt_iff_toInt_lt, Int32.le_iff_toInt_le, ← Int32.toInt_inj, Int32.reduceToInt, n_1, n_2, n_8, Int32.toNatClampNeg, Int64.lt_iff_toInt_lt, Int64.le_iff_toInt_le, ← Int64.toInt_inj, Int64.reduceToInt, Int32.toInt_toInt64, lg_cmp_ge, lg_cmp_le, lg_cmp_gt, lg_cmp_lt, lg_cmp_eq, Bool.false_eq_true, Bool.true_eq_false, reduceCtorEq, false_iff, true_iff, iff_true, iff_false, and_true, true_and, and_false, false_and, reduceIte, ite_true, ite_false, eq_self] at *)) <;> omega) (fun s74 hs74 => ?_)
                        have Fs74 : Sm 20 24 σ s74 := by rw [hs74]; exact Sm.sl Fs73 _ _ (by decide) (by decide)
                        refine wa_iload rfl ?_
                        refine wa_ireturn rfl rfl ?_
                        exact ⟨_, rfl, Fs74, ((nx_gr_sl hs74).trans ((nx_gr_si hs73).trans (khi3_0))), ((nx_gi_sl hs74).trans ((nxq_gi_si hs73 (by decide)).trans (khi3_1))), trivial⟩
                  · have mh70 := nle_mx h70
                    refine wa_iload rfl ?_
                    refine wa_aload_n (i := 0) rfl rfl ?_
                    refine wa_getr ck_3 fl_3_11 ly_18 rf_18_0 ?_
                    refine wa_alen ly_19 (by decide) ?_
                    refine wa_rw (show Int32.ofNat 20 = 20 from rfl) ?_
                    refine wa_icmp_ge o_X3_word_127 (by decide) (fun h75 => ?_) (fun h75 => ?_)
                    · refine wa_iload_n (i := 1) rfl rfl ?_
                      refine wa_if_lt o_X3_word_154 (by decide) (fun h76 => ?_) (fun h76 => ?_)
                      · refine wa_iload rfl ?_
                        refine wa_ireturn rfl rfl ?_
                        exact ⟨_, rfl, Fs1, (khi3_0), (khi3_1), trivial⟩
                      · refine wa_iload_n (i := 1) rfl rfl ?_
                        refine wa_sipush (v := 2000) (by decide) ?_
                        refine wa_icmp_gt o_X3_word_154 (by decide) (fun h77 => ?_) (fun h77 => ?_)
                        · refine wa_iload rfl ?_
                          refine wa_ireturn rfl rfl ?_
                          exact ⟨_, rfl, Fs1, (khi3_0), (khi3_1), trivial⟩
                        · refine wa_aload_n (i := 0) rfl rfl ?_
                          refine wa_getr ck_3 fl_3_15 ly_18 rf_18_1 ?_
                          refine wa_iload_n (i := 1) rfl rfl ?_
                          refine wa_iload rfl ?_
                          refine wa_iast ly_20 (by ((try simp only [vp_in_iff, Int32.lt_iff_toInt_lt, Int32.le_iff_toInt_le, ← Int32.toInt_inj, Int32.reduceToInt, n_1, n_2, n_8, Int32.toNatClampNeg, Int64.lt_iff_toInt_lt, Int64.le_iff_toInt_le, ← Int64.toInt_inj, Int64.reduceToInt, Int32.toInt_toInt64, lg_cmp_ge, lg_cmp_le, lg_cmp_gt, lg_cmp_lt, lg_cmp_eq, Bool.false_eq_true, Bool.true_eq_false, reduceCtorEq, false_iff, true_iff, iff_true, iff_false, and_true, true_and, and_false, false_and, reduceIte, ite_true, ite_false, eq_self] at *)) <;> omega) (fun s78 hs78 => ?_)
                          have Fs78 : Sm 20 24 σ s78 := by rw [hs78]; exact Sm.si Fs1 _ _ (by decide) (by decide)
                          refine wa_aload_n (i := 0) rfl rfl ?_
                          refine wa_getr ck_3 fl_3_25 ly_18 rf_18_4 ?_
                          refine wa_iload_n (i := 1) rfl rfl ?_
                          refine wa_lload rfl ?_
                          refine wa_last ly_23 (by ((try simp only [vp_in_iff, Int32.lt_iff_toInt_lt, Int32.le_iff_toInt_le, ← Int32.toInt_inj, Int32.reduceToInt, n_1, n_2, n_8, Int32.toNatClampNeg, Int64.lt_iff_toInt_lt, Int64.le_iff_toInt_le, ← Int64.toInt_inj, Int64.reduceToInt, Int32.toInt_toInt64, lg_cmp_ge, lg_cmp_le, lg_cmp_gt, lg_cmp_lt, lg_cmp_eq, Bool.false_eq_true, Bool.true_eq_false, reduceCtorEq, false_iff, true_iff, iff_true, iff_false, and_true, true_and, and_false, false_and, reduceIte, ite_true, ite_false, eq_self] at *)) <;> omega) (fun s79 hs79 => ?_)
                          have Fs79 : Sm 20 24 σ s79 := by rw [hs79]; exact Sm.sl Fs78 _ _ (by decide) (by decide)
                          refine wa_iload rfl ?_
                          refine wa_ireturn rfl rfl ?_
                          exact ⟨_, rfl, Fs79, ((nx_gr_sl hs79).trans ((nx_gr_si hs78).trans (khi3_0))), ((nx_gi_sl hs79).trans ((nxq_gi_si hs78 (by decide)).trans (khi3_1))), trivial⟩
                    · have mh75 := nle_mx h75
                      refine wa_iload rfl ?_
                      refine wa_iconst (v := 1) (by decide) ?_
                      refine wa_icmp_ne o_X3_word_127 (by decide) (fun h80 => ?_) (fun h80 => ?_)
                      · refine wa_iload_n (i := 1) rfl rfl ?_
                        refine wa_if_lt o_X3_word_154 (by decide) (fun h81 => ?_) (fun h81 => ?_)
                        · refine wa_iload rfl ?_
                          refine wa_ireturn rfl rfl ?_
                          exact ⟨_, rfl, Fs1, (khi3_0), (khi3_1), trivial⟩
                        · refine wa_iload_n (i := 1) rfl rfl ?_
                          refine wa_sipush (v := 2000) (by decide) ?_
                          refine wa_icmp_gt o_X3_word_154 (by decide) (fun h82 => ?_) (fun h82 => ?_)
                          · refine wa_iload rfl ?_
                            refine wa_ireturn rfl rfl ?_
                            exact ⟨_, rfl, Fs1, (khi3_0), (khi3_1), trivial⟩
                          · refine wa_aload_n (i := 0) rfl rfl ?_
                            refine wa_getr ck_3 fl_3_15 ly_18 rf_18_1 ?_
                            refine wa_iload_n (i := 1) rfl rfl ?_
                            refine wa_iload rfl ?_
                            refine wa_iast ly_20 (by ((try simp only [vp_in_iff, Int32.lt_iff_toInt_lt, Int32.le_iff_toInt_le, ← Int32.toInt_inj, Int32.reduceToInt, n_1, n_2, n_8, Int32.toNatClampNeg, Int64.lt_iff_toInt_lt, Int64.le_iff_toInt_le, ← Int64.toInt_inj, Int64.reduceToInt, Int32.toInt_toInt64, lg_cmp_ge, lg_cmp_le, lg_cmp_gt, lg_cmp_lt, lg_cmp_eq, Bool.false_eq_true, Bool.true_eq_false, reduceCtorEq, false_iff, true_iff, iff_true, iff_false, and_true, true_and, and_false, false_and, reduceIte, ite_true, ite_false, eq_self] at *)) <;> omega) (fun s83 hs83 => ?_)
                            have Fs83 : Sm 20 24 σ s83 := by rw [hs83]; exact Sm.si Fs1 _ _ (by decide) (by decide)
                            refine wa_aload_n (i := 0) rfl rfl ?_
                            refine wa_getr ck_3 fl_3_25 ly_18 rf_18_4 ?_
                            refine wa_iload_n (i := 1) rfl rfl ?_
                            refine wa_lload rfl ?_
                            refine wa_last ly_23 (by ((try simp only [vp_in_iff, Int32.lt_iff_toInt_lt, Int32.le_iff_toInt_le, ← Int32.toInt_inj, Int32.reduceToInt, n_1, n_2, n_8, Int32.toNatClampNeg, Int64.lt_iff_toInt_lt, Int64.le_iff_toInt_le, ← Int64.toInt_inj, Int64.reduceToInt, Int32.toInt_toInt64, lg_cmp_ge, lg_cmp_le, lg_cmp_gt, lg_cmp_lt, lg_cmp_eq, Bool.false_eq_true, Bool.true_eq_false, reduceCtorEq, false_iff, true_iff, iff_true, iff_false, and_true, true_and, and_false, false_and, reduceIte, ite_true, ite_false, eq_self] at *)) <;> omega) (fun s84 hs84 => ?_)
                            have Fs84 : Sm 20 24 σ s84 := by rw [hs84]; exact Sm.sl Fs83 _ _ (by decide) (by decide)
                            refine wa_iload rfl ?_
                            refine wa_ireturn rfl rfl ?_
                            exact ⟨_, rfl, Fs84, ((nx_gr_sl hs84).trans ((nx_gr_si hs83).trans (khi3_0))), ((nx_gi_sl hs84).trans ((nxq_gi_si hs83 (by decide)).trans (khi3_1))), trivial⟩
                      · refine wa_aload_n (i := 0) rfl rfl ?_
                        refine wa_getr ck_3 fl_3_11 ly_18 rf_18_0 ?_
                        refine wa_iload rfl ?_
                        refine wa_lald ly_19 (by ((try simp only [vp_in_iff, Int32.lt_iff_toInt_lt, Int32.le_iff_toInt_le, ← Int32.toInt_inj, Int32.reduceToInt, n_1, n_2, n_8, Int32.toNatClampNeg, Int64.lt_iff_toInt_lt, Int64.le_iff_toInt_le, ← Int64.toInt_inj, Int64.reduceToInt, Int32.toInt_toInt64, lg_cmp_ge, lg_cmp_le, lg_cmp_gt, lg_cmp_lt, lg_cmp_eq, Bool.false_eq_true, Bool.true_eq_false, reduceCtorEq, false_iff, true_iff, iff_true, iff_false, and_true, true_and, and_false, false_and, reduceIte, ite_true, ite_false, eq_self] at *)) <;> omega) ?_
                        refine wa_lload rfl ?_
                        refine wa_lcmp ?_
                        refine wa_top (fun v85 hv85 => ?_)
                        have tv85 := i_cmpT hv85
                        clear hv85
                        refine wa_if_ne o_X3_word_121 (by decide) (fun h86 => ?_) (fun h86 => ?_)
                        · refine wa_iinc (v := (1)) (lv' := fun y87 => [(8, .int y87), (0, .ref 18), (1, .int a0), (3, .int a2), (4, .long l4), (6, .int l6), (7, .int l7)]) (by decide) rfl (by decide) (fun _ => rfl) (fun y87 hy87 => ?_)
                          have ty87 := i_addT hy87.symm
                          clear hy87
                          refine wa_goto o_X3_word_79 (by decide) ?_
                          refine wa_pick [1, 2, 3, 4, 5, 6, 0] rfl ?_
                          exact ih68 _ (by ((try simp only [vp_in_iff, Int32.lt_iff_toInt_lt, Int32.le_iff_toInt_le, ← Int32.toInt_inj, Int32.reduceToInt, n_1, n_2, n_8, Int32.toNatClampNeg, Int64.lt_iff_toInt_lt, Int64.le_iff_toInt_le, ← Int64.toInt_inj, Int64.reduceToInt, Int32.toInt_toInt64, lg_cmp_ge, lg_cmp_le, lg_cmp_gt, lg_cmp_lt, lg_cmp_eq, Bool.false_eq_true, Bool.true_eq_false, reduceCtorEq, false_iff, true_iff, iff_true, iff_false, and_true, true_and, and_false, false_and, reduceIte, ite_true, ite_false, eq_self] at *)) <;> omega) _ _ ⟨(by ((try simp only [vp_in_iff, Int32.lt_iff_toInt_lt, Int32.le_iff_toInt_le, ← Int32.toInt_inj, Int32.reduceToInt, n_1, n_2, n_8, Int32.toNatClampNeg, Int64.lt_iff_toInt_lt, Int64.le_iff_toInt_le, ← Int64.toInt_inj, Int64.reduceToInt, Int32.toInt_toInt64, lg_cmp_ge, lg_cmp_le, lg_cmp_gt, lg_cmp_lt, lg_cmp_eq, Bool.false_eq_true, Bool.true_eq_false, reduceCtorEq, false_iff, true_iff, iff_true, iff_false, and_true, true_and, and_false, false_and, reduceIte, ite_true, ite_false, eq_self] at *)) <;> omega), trivial⟩ rfl
                        · refine wa_bipush (v := 21) (by decide) ?_
                          refine wa_iload rfl ?_
                          refine wa_iadd ?_
                          refine wa_top (fun v88 hv88 => ?_)
                          have tv88 := i_addT hv88
                          clear hv88
                          refine wa_istoreD (lv' := [(7, .int v88), (0, .ref 18), (1, .int a0), (3, .int a2), (4, .long l4), (6, .int l6), (8, .int l8)]) (by decide) rfl ?_
                          refine wa_iinc (v := (1)) (lv' := fun y89 => [(8, .int y89), (7, .int v88), (0, .ref 18), (1, .int a0), (3, .int a2), (4, .long l4), (6, .int l6)]) (by decide) rfl (by decide) (fun _ => rfl) (fun y89 hy89 => ?_)
                          have ty89 := i_addT hy89.symm
                          clear hy89
                          refine wa_goto o_X3_word_79 (by decide) ?_
                          refine wa_pick [2, 3, 4, 5, 6, 1, 0] rfl ?_
                          exact ih68 _ (by ((try simp only [vp_in_iff, Int32.lt_iff_toInt_lt, Int32.le_iff_toInt_le, ← Int32.toInt_inj, Int32.reduceToInt, n_1, n_2, n_8, Int32.toNatClampNeg, Int64.lt_iff_toInt_lt, Int64.le_iff_toInt_le, ← Int64.toInt_inj, Int64.reduceToInt, Int32.toInt_toInt64, lg_cmp_ge, lg_cmp_le, lg_cmp_gt, lg_cmp_lt, lg_cmp_eq, Bool.false_eq_true, Bool.true_eq_false, reduceCtorEq, false_iff, true_iff, iff_true, iff_false, and_true, true_and, and_false, false_and, reduceIte, ite_true, ite_false, eq_self] at *)) <;> omega) _ _ ⟨(by ((try simp only [vp_in_iff, Int32.lt_iff_toInt_lt, Int32.le_iff_toInt_le, ← Int32.toInt_inj, Int32.reduceToInt, n_1, n_2, n_8, Int32.toNatClampNeg, Int64.lt_iff_toInt_lt, Int64.le_iff_toInt_le, ← Int64.toInt_inj, Int64.reduceToInt, Int32.toInt_toInt64, lg_cmp_ge, lg_cmp_le, lg_cmp_gt, lg_cmp_lt, lg_cmp_eq, Bool.false_eq_true, Bool.true_eq_false, reduceCtorEq, false_iff, true_iff, iff_true, iff_false, and_true, true_and, and_false, false_and, reduceIte, ite_true, ite_false, eq_self] at *)) <;> omega), trivial⟩ rfl
              exact hi69 _ _ _ ⟨(by ((try simp only [vp_in_iff, Int32.lt_iff_toInt_lt, Int32.le_iff_toInt_le, ← Int32.toInt_inj, Int32.reduceToInt, n_1, n_2, n_8, Int32.toNatClampNeg, Int64.lt_iff_toInt_lt, Int64.le_iff_toInt_le, ← Int64.toInt_inj, Int64.reduceToInt, Int32.toInt_toInt64, lg_cmp_ge, lg_cmp_le, lg_cmp_gt, lg_cmp_lt, lg_cmp_eq, Bool.false_eq_true, Bool.true_eq_false, reduceCtorEq, false_iff, true_iff, iff_true, iff_false, and_true, true_and, and_false, false_and, reduceIte, ite_true, ite_false, eq_self] at *)) <;> omega), trivial⟩ rfl
            · refine wa_iconst (v := 3) (by decide) ?_
              refine wa_goto o_X3_word_74 (by decide) ?_
              refine wa_istoreD (lv' := [(7, .int 3), (0, .ref 18), (1, .int a0), (2, .int a1), (3, .int a2), (4, .long l4), (6, .int l6)]) (by decide) rfl ?_
              refine wa_iconst (v := 0) (by decide) ?_
              refine wa_istoreD (lv' := [(8, .int 0), (7, .int 3), (0, .ref 18), (1, .int a0), (2, .int a1), (3, .int a2), (4, .long l4), (6, .int l6)]) (by decide) rfl ?_
              refine wa_pick [2, 3, 5, 6, 7, 1, 0] rfl ?_
              have hi91 : ∀ (n9_79 : Nat) (l7 : Int32) (l8 : Int32), ((0 ≤ l8.toInt) ∧ (True)) → (2147483647 - l8.toInt).toNat = n9_79 → WA G M_X3_word (ZM G M_X3_word d (fun r σ' => ∃ x : Int32, r = some (.int x) ∧ Sm 20 24 σ σ' ∧ (gr σ' 18 6 = gr σ 18 6) ∧ (gi σ' 18 5 = gi σ 18 5) ∧ True)) B_X3_word_79 [(0, .ref 18), (1, .int a0), (3, .int a2), (4, .long l4), (6, .int l6), (7, .int l7), (8, .int l8)] [] s1 := by
                intro n9_79
                induction n9_79 using Nat.strongRecOn with
                | _ n9_79 ih90 =>
                  intro l7 l8  i9 m9_79
                  obtain ⟨jhi91_0, -⟩ := i9
                  have ul7 := Int32.toInt_lt l7
                  have wl7 := Int32.le_toInt l7
                  have ul8 := Int32.toInt_lt l8
                  have wl8 := Int32.le_toInt l8
                  refine wa_iload rfl ?_
                  refine wa_iload_n (i := 3) rfl rfl ?_
                  refine wa_icmp_ge o_X3_word_127 (by decide) (fun h92 => ?_) (fun h92 => ?_)
                  · refine wa_iload_n (i := 1) rfl rfl ?_
                    refine wa_if_lt o_X3_word_154 (by decide) (fun h93 => ?_) (fun h93 => ?_)
                    · refine wa_iload rfl ?_
                      refine wa_ireturn rfl rfl ?_
                      exact ⟨_, rfl, Fs1, (khi3_0), (khi3_1), trivial⟩
                    · refine wa_iload_n (i := 1) rfl rfl ?_
                      refine wa_sipush (v := 2000) (by decide) ?_
                      refine wa_icmp_gt o_X3_word_154 (by decide) (fun h94 => ?_) (fun h94 => ?_)
                      · refine wa_iload rfl ?_
                        refine wa_ireturn rfl rfl ?_
                        exact ⟨_, rfl, Fs1, (khi3_0), (khi3_1), trivial⟩
                      · refine wa_aload_n (i := 0) rfl rfl ?_
                        refine wa_getr ck_3 fl_3_15 ly_18 rf_18_1 ?_
                        refine wa_iload_n (i := 1) rfl rfl ?_
                        refine wa_iload rfl ?_
                        refine wa_iast ly_20 (by ((try simp only [vp_in_iff, Int32.lt_iff_toInt_lt, Int32.le_iff_toInt_le, ← Int32.toInt_inj, Int32.reduceToInt, n_1, n_2, n_8, Int32.toNatClampNeg, Int64.lt_iff_toInt_lt, Int64.le_iff_toInt_le, ← Int64.toInt_inj, Int64.reduceToInt, Int32.toInt_toInt64, lg_cmp_ge, lg_cmp_le, lg_cmp_gt, lg_cmp_lt, lg_cmp_eq, Bool.false_eq_true, Bool.true_eq_false, reduceCtorEq, false_iff, true_iff, iff_true, iff_false, and_true, true_and, and_false, false_and, reduceIte, ite_true, ite_false, eq_self] at *)) <;> omega) (fun s95 hs95 => ?_)
                        have Fs95 : Sm 20 24 σ s95 := by rw [hs95]; exact Sm.si Fs1 _ _ (by decide) (by decide)
                        refine wa_aload_n (i := 0) rfl rfl ?_
                        refine wa_getr ck_3 fl_3_25 ly_18 rf_18_4 ?_
                        refine wa_iload_n (i := 1) rfl rfl ?_
                        refine wa_lload rfl ?_
                        refine wa_last ly_23 (by ((try simp only [vp_in_iff, Int32.lt_iff_toInt_lt, Int32.le_iff_toInt_le, ← Int32.toInt_inj, Int32.reduceToInt, n_1, n_2, n_8, Int32.toNatClampNeg, Int64.lt_iff_toInt_lt, Int64.le_iff_toInt_le, ← Int64.toInt_inj, Int64.reduceToInt, Int32.toInt_toInt64, lg_cmp_ge, lg_cmp_le, lg_cmp_gt, lg_cmp_lt, lg_cmp_eq, Bool.false_eq_true, Bool.true_eq_false, reduceCtorEq, false_iff, true_iff, iff_true, iff_false, and_true, true_and, and_false, false_and, reduceIte, ite_true, ite_false, eq_self] at *)) <;> omega) (fun s96 hs96 => ?_)
                        have Fs96 : Sm 20 24 σ s96 := by rw [hs96]; exact Sm.sl Fs95 _ _ (by decide) (by decide)
                        refine wa_iload rfl ?_
                        refine wa_ireturn rfl rfl ?_
                        exact ⟨_, rfl, Fs96, ((nx_gr_sl hs96).trans ((nx_gr_si hs95).trans (khi3_0))), ((nx_gi_sl hs96).trans ((nxq_gi_si hs95 (by decide)).trans (khi3_1))), trivial⟩
                  · have mh92 := nle_mx h92
                    refine wa_iload rfl ?_
                    refine wa_aload_n (i := 0) rfl rfl ?_
                    refine wa_getr ck_3 fl_3_11 ly_18 rf_18_0 ?_
                    refine wa_alen ly_19 (by decide) ?_
                    refine wa_rw (show Int32.ofNat 20 = 20 from rfl) ?_
                    refine wa_icmp_ge o_X3_word_127 (by decide) (fun h97 => ?_) (fun h97 => ?_)
                    · refine wa_iload_n (i := 1) rfl rfl ?_
                      refine wa_if_lt o_X3_word_154 (by decide) (fun h98 => ?_) (fun h98 => ?_)
                      · refine wa_iload rfl ?_
                        refine wa_ireturn rfl rfl ?_
                        exact ⟨_, rfl, Fs1, (khi3_0), (khi3_1), trivial⟩
                      · refine wa_iload_n (i := 1) rfl rfl ?_
                        refine wa_sipush (v := 2000) (by decide) ?_
                        refine wa_icmp_gt o_X3_word_154 (by decide) (fun h99 => ?_) (fun h99 => ?_)
                        · refine wa_iload rfl ?_
                          refine wa_ireturn rfl rfl ?_
                          exact ⟨_, rfl, Fs1, (khi3_0), (khi3_1), trivial⟩
                        · refine wa_aload_n (i := 0) rfl rfl ?_
                          refine wa_getr ck_3 fl_3_15 ly_18 rf_18_1 ?_
                          refine wa_iload_n (i := 1) rfl rfl ?_
                          refine wa_iload rfl ?_
                          refine wa_iast ly_20 (by ((try simp only [vp_in_iff, Int32.lt_iff_toInt_lt, Int32.le_iff_toInt_le, ← Int32.toInt_inj, Int32.reduceToInt, n_1, n_2, n_8, Int32.toNatClampNeg, Int64.lt_iff_toInt_lt, Int64.le_iff_toInt_le, ← Int64.toInt_inj, Int64.reduceToInt, Int32.toInt_toInt64, lg_cmp_ge, lg_cmp_le, lg_cmp_gt, lg_cmp_lt, lg_cmp_eq, Bool.false_eq_true, Bool.true_eq_false, reduceCtorEq, false_iff, true_iff, iff_true, iff_false, and_true, true_and, and_false, false_and, reduceIte, ite_true, ite_false, eq_self] at *)) <;> omega) (fun s100 hs100 => ?_)
                          have Fs100 : Sm 20 24 σ s100 := by rw [hs100]; exact Sm.si Fs1 _ _ (by decide) (by decide)
                          refine wa_aload_n (i := 0) rfl rfl ?_
                          refine wa_getr ck_3 fl_3_25 ly_18 rf_18_4 ?_
                          refine wa_iload_n (i := 1) rfl rfl ?_
                          refine wa_lload rfl ?_
                          refine wa_last ly_23 (by ((try simp only [vp_in_iff, Int32.lt_iff_toInt_lt, Int32.le_iff_toInt_le, ← Int32.toInt_inj, Int32.reduceToInt, n_1, n_2, n_8, Int32.toNatClampNeg, Int64.lt_iff_toInt_lt, Int64.le_iff_toInt_le, ← Int64.toInt_inj, Int64.reduceToInt, Int32.toInt_toInt64, lg_cmp_ge, lg_cmp_le, lg_cmp_gt, lg_cmp_lt, lg_cmp_eq, Bool.false_eq_true, Bool.true_eq_false, reduceCtorEq, false_iff, true_iff, iff_true, iff_false, and_true, true_and, and_false, false_and, reduceIte, ite_true, ite_false, eq_self] at *)) <;> omega) (fun s101 hs101 => ?_)
                          have Fs101 : Sm 20 24 σ s101 := by rw [hs101]; exact Sm.sl Fs100 _ _ (by decide) (by decide)
                          refine wa_iload rfl ?_
                          refine wa_ireturn rfl rfl ?_
                          exact ⟨_, rfl, Fs101, ((nx_gr_sl hs101).trans ((nx_gr_si hs100).trans (khi3_0))), ((nx_gi_sl hs101).trans ((nxq_gi_si hs100 (by decide)).trans (khi3_1))), trivial⟩
                    · have mh97 := nle_mx h97
                      refine wa_iload rfl ?_
                      refine wa_iconst (v := 1) (by decide) ?_
                      refine wa_icmp_ne o_X3_word_127 (by decide) (fun h102 => ?_) (fun h102 => ?_)
                      · refine wa_iload_n (i := 1) rfl rfl ?_
                        refine wa_if_lt o_X3_word_154 (by decide) (fun h103 => ?_) (fun h103 => ?_)
                        · refine wa_iload rfl ?_
                          refine wa_ireturn rfl rfl ?_
                          exact ⟨_, rfl, Fs1, (khi3_0), (khi3_1), trivial⟩
                        · refine wa_iload_n (i := 1) rfl rfl ?_
                          refine wa_sipush (v := 2000) (by decide) ?_
                          refine wa_icmp_gt o_X3_word_154 (by decide) (fun h104 => ?_) (fun h104 => ?_)
                          · refine wa_iload rfl ?_
                            refine wa_ireturn rfl rfl ?_
                            exact ⟨_, rfl, Fs1, (khi3_0), (khi3_1), trivial⟩
                          · refine wa_aload_n (i := 0) rfl rfl ?_
                            refine wa_getr ck_3 fl_3_15 ly_18 rf_18_1 ?_
                            refine wa_iload_n (i := 1) rfl rfl ?_
                            refine wa_iload rfl ?_
                            refine wa_iast ly_20 (by ((try simp only [vp_in_iff, Int32.lt_iff_toInt_lt, Int32.le_iff_toInt_le, ← Int32.toInt_inj, Int32.reduceToInt, n_1, n_2, n_8, Int32.toNatClampNeg, Int64.lt_iff_toInt_lt, Int64.le_iff_toInt_le, ← Int64.toInt_inj, Int64.reduceToInt, Int32.toInt_toInt64, lg_cmp_ge, lg_cmp_le, lg_cmp_gt, lg_cmp_lt, lg_cmp_eq, Bool.false_eq_true, Bool.true_eq_false, reduceCtorEq, false_iff, true_iff, iff_true, iff_false, and_true, true_and, and_false, false_and, reduceIte, ite_true, ite_false, eq_self] at *)) <;> omega) (fun s105 hs105 => ?_)
                            have Fs105 : Sm 20 24 σ s105 := by rw [hs105]; exact Sm.si Fs1 _ _ (by decide) (by decide)
                            refine wa_aload_n (i := 0) rfl rfl ?_
                            refine wa_getr ck_3 fl_3_25 ly_18 rf_18_4 ?_
                            refine wa_iload_n (i := 1) rfl rfl ?_
                            refine wa_lload rfl ?_
                            refine wa_last ly_23 (by ((try simp only [vp_in_iff, Int32.lt_iff_toInt_lt, Int32.le_iff_toInt_le, ← Int32.toInt_inj, Int32.reduceToInt, n_1, n_2, n_8, Int32.toNatClampNeg, Int64.lt_iff_toInt_lt, Int64.le_iff_toInt_le, ← Int64.toInt_inj, Int64.reduceToInt, Int32.toInt_toInt64, lg_cmp_ge, lg_cmp_le, lg_cmp_gt, lg_cmp_lt, lg_cmp_eq, Bool.false_eq_true, Bool.true_eq_false, reduceCtorEq, false_iff, true_iff, iff_true, iff_false, and_true, true_and, and_false, false_and, reduceIte, ite_true, ite_false, eq_self] at *)) <;> omega) (fun s106 hs106 => ?_)
                            have Fs106 : Sm 20 24 σ s106 := by rw [hs106]; exact Sm.sl Fs105 _ _ (by decide) (by decide)
                            refine wa_iload rfl ?_
                            refine wa_ireturn rfl rfl ?_
                            exact ⟨_, rfl, Fs106, ((nx_gr_sl hs106).trans ((nx_gr_si hs105).trans (khi3_0))), ((nx_gi_sl hs106).trans ((nxq_gi_si hs105 (by decide)).trans (khi3_1))), trivial⟩
                      · refine wa_aload_n (i := 0) rfl rfl ?_
                        refine wa_getr ck_3 fl_3_11 ly_18 rf_18_0 ?_
                        refine wa_iload rfl ?_
                        refine wa_lald ly_19 (by ((try simp only [vp_in_iff, Int32.lt_iff_toInt_lt, Int32.le_iff_toInt_le, ← Int32.toInt_inj, Int32.reduceToInt, n_1, n_2, n_8, Int32.toNatClampNeg, Int64.lt_iff_toInt_lt, Int64.le_iff_toInt_le, ← Int64.toInt_inj, Int64.reduceToInt, Int32.toInt_toInt64, lg_cmp_ge, lg_cmp_le, lg_cmp_gt, lg_cmp_lt, lg_cmp_eq, Bool.false_eq_true, Bool.true_eq_false, reduceCtorEq, false_iff, true_iff, iff_true, iff_false, and_true, true_and, and_false, false_and, reduceIte, ite_true, ite_false, eq_self] at *)) <;> omega) ?_
                        refine wa_lload rfl ?_
                        refine wa_lcmp ?_
                        refine wa_top (fun v107 hv107 => ?_)
                        have tv107 := i_cmpT hv107
                        clear hv107
                        refine wa_if_ne o_X3_word_121 (by decide) (fun h108 => ?_) (fun h108 => ?_)
                        · refine wa_iinc (v := (1)) (lv' := fun y109 => [(8, .int y109), (0, .ref 18), (1, .int a0), (3, .int a2), (4, .long l4), (6, .int l6), (7, .int l7)]) (by decide) rfl (by decide) (fun _ => rfl) (fun y109 hy109 => ?_)
                          have ty109 := i_addT hy109.symm
                          clear hy109
                          refine wa_goto o_X3_word_79 (by decide) ?_
                          refine wa_pick [1, 2, 3, 4, 5, 6, 0] rfl ?_
                          exact ih90 _ (by ((try simp only [vp_in_iff, Int32.lt_iff_toInt_lt, Int32.le_iff_toInt_le, ← Int32.toInt_inj, Int32.reduceToInt, n_1, n_2, n_8, Int32.toNatClampNeg, Int64.lt_iff_toInt_lt, Int64.le_iff_toInt_le, ← Int64.toInt_inj, Int64.reduceToInt, Int32.toInt_toInt64, lg_cmp_ge, lg_cmp_le, lg_cmp_gt, lg_cmp_lt, lg_cmp_eq, Bool.false_eq_true, Bool.true_eq_false, reduceCtorEq, false_iff, true_iff, iff_true, iff_false, and_true, true_and, and_false, false_and, reduceIte, ite_true, ite_false, eq_self] at *)) <;> omega) _ _ ⟨(by ((try simp only [vp_in_iff, Int32.lt_iff_toInt_lt, Int32.le_iff_toInt_le, ← Int32.toInt_inj, Int32.reduceToInt, n_1, n_2, n_8, Int32.toNatClampNeg, Int64.lt_iff_toInt_lt, Int64.le_iff_toInt_le, ← Int64.toInt_inj, Int64.reduceToInt, Int32.toInt_toInt64, lg_cmp_ge, lg_cmp_le, lg_cmp_gt, lg_cmp_lt, lg_cmp_eq, Bool.false_eq_true, Bool.true_eq_false, reduceCtorEq, false_iff, true_iff, iff_true, iff_false, and_true, true_and, and_false, false_and, reduceIte, ite_true, ite_false, eq_self] at *)) <;> omega), trivial⟩ rfl
                        · refine wa_bipush (v := 21) (by decide) ?_
                          refine wa_iload rfl ?_
                          refine wa_iadd ?_
                          refine wa_top (fun v110 hv110 => ?_)
                          have tv110 := i_addT hv110
                          clear hv110
                          refine wa_istoreD (lv' := [(7, .int v110), (0, .ref 18), (1, .int a0), (3, .int a2), (4, .long l4), (6, .int l6), (8, .int l8)]) (by decide) rfl ?_
                          refine wa_iinc (v := (1)) (lv' := fun y111 => [(8, .int y111), (7, .int v110), (0, .ref 18), (1, .int a0), (3, .int a2), (4, .long l4), (6, .int l6)]) (by decide) rfl (by decide) (fun _ => rfl) (fun y111 hy111 => ?_)
                          have ty111 := i_addT hy111.symm
                          clear hy111
                          refine wa_goto o_X3_word_79 (by decide) ?_
                          refine wa_pick [2, 3, 4, 5, 6, 1, 0] rfl ?_
                          exact ih90 _ (by ((try simp only [vp_in_iff, Int32.lt_iff_toInt_lt, Int32.le_iff_toInt_le, ← Int32.toInt_inj, Int32.reduceToInt, n_1, n_2, n_8, Int32.toNatClampNeg, Int64.lt_iff_toInt_lt, Int64.le_iff_toInt_le, ← Int64.toInt_inj, Int64.reduceToInt, Int32.toInt_toInt64, lg_cmp_ge, lg_cmp_le, lg_cmp_gt, lg_cmp_lt, lg_cmp_eq, Bool.false_eq_true, Bool.true_eq_false, reduceCtorEq, false_iff, true_iff, iff_true, iff_false, and_true, true_and, and_false, false_and, reduceIte, ite_true, ite_false, eq_self] at *)) <;> omega) _ _ ⟨(by ((try simp only [vp_in_iff, Int32.lt_iff_toInt_lt, Int32.le_iff_toInt_le, ← Int32.toInt_inj, Int32.reduceToInt, n_1, n_2, n_8, Int32.toNatClampNeg, Int64.lt_iff_toInt_lt, Int64.le_iff_toInt_le, ← Int64.toInt_inj, Int64.reduceToInt, Int32.toInt_toInt64, lg_cmp_ge, lg_cmp_le, lg_cmp_gt, lg_cmp_lt, lg_cmp_eq, Bool.false_eq_true, Bool.true_eq_false, reduceCtorEq, false_iff, true_iff, iff_true, iff_false, and_true, true_and, and_false, false_and, reduceIte, ite_true, ite_false, eq_self] at *)) <;> omega), trivial⟩ rfl
              exact hi91 _ _ _ ⟨(by ((try simp only [vp_in_iff, Int32.lt_iff_toInt_lt, Int32.le_iff_toInt_le, ← Int32.toInt_inj, Int32.reduceToInt, n_1, n_2, n_8, Int32.toNatClampNeg, Int64.lt_iff_toInt_lt, Int64.le_iff_toInt_le, ← Int64.toInt_inj, Int64.reduceToInt, Int32.toInt_toInt64, lg_cmp_ge, lg_cmp_le, lg_cmp_gt, lg_cmp_lt, lg_cmp_eq, Bool.false_eq_true, Bool.true_eq_false, reduceCtorEq, false_iff, true_iff, iff_true, iff_false, and_true, true_and, and_false, false_and, reduceIte, ite_true, ite_false, eq_self] at *)) <;> omega), trivial⟩ rfl
          · replace h65 := bI_t (b := bx64) (rfl) h65
            refine wa_lload rfl ?_
            refine wa_bipush (v := 8) (by decide) ?_
            refine wa_lshl ?_
            refine wa_topl (fun v112 hv112 => ?_)
            clear hv112
            refine wa_aload_n (i := 0) rfl rfl ?_
            refine wa_iload rfl ?_
            refine wa_Vi (d9 := d - 1) [.int _] [.long v112] (sp_X3_byteAt G (d := d - 1) (by omega) s1 _ (by rw [khi3_0]; first | assumption | exact Or.inl rfl | exact Or.inr rfl | (((try simp only [vp_in_iff, Int32.lt_iff_toInt_lt, Int32.le_iff_toInt_le, ← Int32.toInt_inj, Int32.reduceToInt, n_1, n_2, n_8, Int32.toNatClampNeg, Int64.lt_iff_toInt_lt, Int64.le_iff_toInt_le, ← Int64.toInt_inj, Int64.reduceToInt, Int32.toInt_toInt64, lg_cmp_ge, lg_cmp_le, lg_cmp_gt, lg_cmp_lt, lg_cmp_eq, Bool.false_eq_true, Bool.true_eq_false, reduceCtorEq, false_iff, true_iff, iff_true, iff_false, and_true, true_and, and_false, false_and, reduceIte, ite_true, ite_false, eq_self] at *)) <;> omega))) (rfl) rfl rfl (zr (by omega)) mk_X3_byteAt ly_18 ml_3_63 (Nat.le_of_ble_eq_true rfl) (fun x114 s113 hs113 => ?_)
            obtain ⟨zs113, -⟩ := pI hs113
            subst zs113
            refine wa_i2l ?_
            refine wa_lor ?_
            refine wa_topl (fun v115 hv115 => ?_)
            clear hv115
            refine wa_lstoreD (lv' := [(4, .long v115), (0, .ref 18), (1, .int a0), (2, .int a1), (3, .int a2), (6, .int l6)]) (by decide) rfl ?_
            refine wa_iinc (v := (1)) (lv' := fun y116 => [(6, .int y116), (4, .long v115), (0, .ref 18), (1, .int a0), (2, .int a1), (3, .int a2)]) (by decide) rfl (by decide) (fun _ => rfl) (fun y116 hy116 => ?_)
            have ty116 := i_addT hy116.symm
            clear hy116
            refine wa_goto o_X3_word_6 (by decide) ?_
            refine wa_pick [2, 3, 4, 5, 1, 0] rfl ?_
            exact ih2 _ (by ((try simp only [vp_in_iff, Int32.lt_iff_toInt_lt, Int32.le_iff_toInt_le, ← Int32.toInt_inj, Int32.reduceToInt, n_1, n_2, n_8, Int32.toNatClampNeg, Int64.lt_iff_toInt_lt, Int64.le_iff_toInt_le, ← Int64.toInt_inj, Int64.reduceToInt, Int32.toInt_toInt64, lg_cmp_ge, lg_cmp_le, lg_cmp_gt, lg_cmp_lt, lg_cmp_eq, Bool.false_eq_true, Bool.true_eq_false, reduceCtorEq, false_iff, true_iff, iff_true, iff_false, and_true, true_and, and_false, false_and, reduceIte, ite_true, ite_false, eq_self] at *)) <;> omega) _ _ _ ⟨Fs1, (khi3_0), (khi3_1), (khi3_2), trivial⟩ rfl
  exact hi3 _ _ _ _ ⟨(Sm.rf 20 24 σ), (rfl), (rfl), (rfl), trivial⟩ rfl
set_option maxHeartbeats 4000000 in
theorem sp_X3_digits (G : kG9) {d : Nat} (hd : 1 ≤ d) (σ : St) (a0 : Int32) (a1 : Int32) (r1 : gr σ 18 6 = 1 ∨ gr σ 18 6 = 6) : Ct G M_X3_digits d [.ref 18, .int a0, .int a1] σ (fun r σ' => ∃ x : Int32, r = some (.int x) ∧ Sm 20 23 σ σ' ∧ (gr σ' 18 6 = gr σ 18 6) ∧ (gi σ' 18 5 = gi σ 18 5) ∧ True) := by
  refine wa_start (by decide) rfl (Nat.le_of_ble_eq_true rfl) (lv := [(0, .ref 18), (1, .int a0), (2, .int a1)]) rfl o_X3_digits_0 rfl ?_
  have ua0 := Int32.toInt_lt a0
  have wa0 := Int32.le_toInt a0
  have ua1 := Int32.toInt_lt a1
  have wa1 := Int32.le_toInt a1
  refine wa_iconst (v := 0) (by decide) ?_
  refine wa_istore_nD (lv' := [(3, .int 0), (0, .ref 18), (1, .int a0), (2, .int a1)]) (i := 3) rfl (by decide) rfl ?_
  refine wa_iload_n (i := 2) rfl rfl ?_
  refine wa_istoreD (lv' := [(4, .int a1), (3, .int 0), (0, .ref 18), (1, .int a0), (2, .int a1)]) (by decide) rfl ?_
  refine wa_pick [2, 3, 4, 1, 0] rfl ?_
  have hi3 : ∀ (n9_5 : Nat) (l3 : Int32) (l4 : Int32) (s1 : St), ((Sm 20 23 σ s1) ∧ (gr s1 18 6 = gr σ 18 6) ∧ (gi s1 18 5 = gi σ 18 5) ∧ (gi s1 18 8 = gi σ 18 8) ∧ (True)) → (2147483647 - l4.toInt).toNat = n9_5 → WA G M_X3_digits (ZM G M_X3_digits d (fun r σ' => ∃ x : Int32, r = some (.int x) ∧ Sm 20 23 σ σ' ∧ (gr σ' 18 6 = gr σ 18 6) ∧ (gi σ' 18 5 = gi σ 18 5) ∧ True)) B_X3_digits_5 [(0, .ref 18), (1, .int a0), (2, .int a1), (3, .int l3), (4, .int l4)] [] s1 := by
    intro n9_5
    induction n9_5 using Nat.strongRecOn with
    | _ n9_5 ih2 =>
      intro l3 l4 s1 i9 m9_5
      obtain ⟨Fs1, khi3_0, khi3_1, khi3_2, -⟩ := i9
      have ul3 := Int32.toInt_lt l3
      have wl3 := Int32.le_toInt l3
      have ul4 := Int32.toInt_lt l4
      have wl4 := Int32.le_toInt l4
      refine wa_iload rfl ?_
      refine wa_aload_n (i := 0) rfl rfl ?_
      refine wa_geti ck_3 fl_3_52 ly_18 ?_
      refine wa_rw (khi3_2) ?_
      refine wa_icmp_ge o_X3_digits_60 (by decide) (fun h4 => ?_) (fun h4 => ?_)
      · refine wa_iload rfl ?_
        refine wa_iload_n (i := 2) rfl rfl ?_
        refine wa_isub ?_
        refine wa_top (fun v5 hv5 => ?_)
        have tv5 := i_subT hv5
        clear hv5
        refine wa_bipush (v := 6) (by decide) ?_
        refine wa_icmp_gt o_X3_digits_85 (by decide) (fun h6 => ?_) (fun h6 => ?_)
        · refine wa_iconst (v := 0) (by decide) ?_
          refine wa_istoreD (lv' := [(5, .int (bI false)), (0, .ref 18), (1, .int a0), (2, .int a1), (3, .int l3), (4, .int l4)]) (by decide) rfl ?_
          refine wa_iload_n (i := 1) rfl rfl ?_
          refine wa_if_lt o_X3_digits_133 (by decide) (fun h7 => ?_) (fun h7 => ?_)
          · refine wa_iload rfl ?_
            refine wa_ireturn rfl rfl ?_
            exact ⟨_, rfl, Fs1, (khi3_0), (khi3_1), trivial⟩
          · refine wa_iload_n (i := 1) rfl rfl ?_
            refine wa_sipush (v := 2000) (by decide) ?_
            refine wa_icmp_gt o_X3_digits_133 (by decide) (fun h8 => ?_) (fun h8 => ?_)
            · refine wa_iload rfl ?_
              refine wa_ireturn rfl rfl ?_
              exact ⟨_, rfl, Fs1, (khi3_0), (khi3_1), trivial⟩
            · refine wa_aload_n (i := 0) rfl rfl ?_
              refine wa_getr ck_3 fl_3_15 ly_18 rf_18_1 ?_
              refine wa_iload_n (i := 1) rfl rfl ?_
              refine wa_iload rfl ?_
              refine wa_if_eq o_X3_digits_113 (by decide) (fun h9 => ?_) (fun h9 => ?_)
              · replace h9 := bI_f (b := false) (rfl) h9
                refine wa_iconst (v := 3) (by decide) ?_
                refine wa_iast ly_20 (by ((try simp only [vp_in_iff, Int32.lt_iff_toInt_lt, Int32.le_iff_toInt_le, ← Int32.toInt_inj, Int32.reduceToInt, n_1, n_2, n_8, Int32.toNatClampNeg, Int64.lt_iff_toInt_lt, Int64.le_iff_toInt_le, ← Int64.toInt_inj, Int64.reduceToInt, Int32.toInt_toInt64, lg_cmp_ge, lg_cmp_le, lg_cmp_gt, lg_cmp_lt, lg_cmp_eq, Bool.false_eq_true, Bool.true_eq_false, reduceCtorEq, false_iff, true_iff, iff_true, iff_false, and_true, true_and, and_false, false_and, reduceIte, ite_true, ite_false, eq_self] at *)) <;> omega) (fun s10 hs10 => ?_)
                have Fs10 : Sm 20 23 σ s10 := by rw [hs10]; exact Sm.si Fs1 _ _ (by decide) (by decide)
                refine wa_aload_n (i := 0) rfl rfl ?_
                refine wa_getr ck_3 fl_3_22 ly_18 rf_18_3 ?_
                refine wa_iload_n (i := 1) rfl rfl ?_
                refine wa_iload_n (i := 3) rfl rfl ?_
                refine wa_iload rfl ?_
                refine wa_iload_n (i := 2) rfl rfl ?_
                refine wa_isub ?_
                refine wa_top (fun v11 hv11 => ?_)
                have tv11 := i_subT hv11
                clear hv11
                refine wa_bipush (v := 7) (by decide) ?_
                refine wa_iand ?_
                refine wa_top (fun v12 hv12 => ?_)
                have tv12 := i_andT hv12
                clear hv12
                refine wa_bipush (v := 20) (by decide) ?_
                refine wa_ishl ?_
                refine wa_top (fun v13 hv13 => ?_)
                clear hv13
                refine wa_ior ?_
                refine wa_top (fun v14 hv14 => ?_)
                clear hv14
                refine wa_iast ly_22 (by ((try simp only [vp_in_iff, Int32.lt_iff_toInt_lt, Int32.le_iff_toInt_le, ← Int32.toInt_inj, Int32.reduceToInt, n_1, n_2, n_8, Int32.toNatClampNeg, Int64.lt_iff_toInt_lt, Int64.le_iff_toInt_le, ← Int64.toInt_inj, Int64.reduceToInt, Int32.toInt_toInt64, lg_cmp_ge, lg_cmp_le, lg_cmp_gt, lg_cmp_lt, lg_cmp_eq, Bool.false_eq_true, Bool.true_eq_false, reduceCtorEq, false_iff, true_iff, iff_true, iff_false, and_true, true_and, and_false, false_and, reduceIte, ite_true, ite_false, eq_self] at *)) <;> omega) (fun s15 hs15 => ?_)
                have Fs15 : Sm 20 23 σ s15 := by rw [hs15]; exact Sm.si Fs10 _ _ (by decide) (by decide)
                refine wa_iload rfl ?_
                refine wa_ireturn rfl rfl ?_
                exact ⟨_, rfl, Fs15, ((nx_gr_si hs15).trans ((nx_gr_si hs10).trans (khi3_0))), ((nxq_gi_si hs15 (by decide)).trans ((nxq_gi_si hs10 (by decide)).trans (khi3_1))), trivial⟩
              · replace h9 := bI_t (b := false) (rfl) h9
                refine wa_iconst (v := 2) (by decide) ?_
                refine wa_goto o_X3_digits_114 (by decide) ?_
                refine wa_iast ly_20 (by ((try simp only [vp_in_iff, Int32.lt_iff_toInt_lt, Int32.le_iff_toInt_le, ← Int32.toInt_inj, Int32.reduceToInt, n_1, n_2, n_8, Int32.toNatClampNeg, Int64.lt_iff_toInt_lt, Int64.le_iff_toInt_le, ← Int64.toInt_inj, Int64.reduceToInt, Int32.toInt_toInt64, lg_cmp_ge, lg_cmp_le, lg_cmp_gt, lg_cmp_lt, lg_cmp_eq, Bool.false_eq_true, Bool.true_eq_false, reduceCtorEq, false_iff, true_iff, iff_true, iff_false, and_true, true_and, and_false, false_and, reduceIte, ite_true, ite_false, eq_self] at *)) <;> omega) (fun s16 hs16 => ?_)
                have Fs16 : Sm 20 23 σ s16 := by rw [hs16]; exact Sm.si Fs1 _ _ (by decide) (by decide)
                refine wa_aload_n (i := 0) rfl rfl ?_
                refine wa_getr ck_3 fl_3_22 ly_18 rf_18_3 ?_
                refine wa_iload_n (i := 1) rfl rfl ?_
                refine wa_iload_n (i := 3) rfl rfl ?_
                refine wa_iload rfl ?_
                refine wa_iload_n (i := 2) rfl rfl ?_
                refine wa_isub ?_
                refine wa_top (fun v17 hv17 => ?_)
                have tv17 := i_subT hv17
                clear hv17
                refine wa_bipush (v := 7) (by decide) ?_
                refine wa_iand ?_
                refine wa_top (fun v18 hv18 => ?_)
                have tv18 := i_andT hv18
                clear hv18
                refine wa_bipush (v := 20) (by decide) ?_
                refine wa_ishl ?_
                refine wa_top (fun v19 hv19 => ?_)
                clear hv19
                refine wa_ior ?_
                refine wa_top (fun v20 hv20 => ?_)
                clear hv20
                refine wa_iast ly_22 (by ((try simp only [vp_in_iff, Int32.lt_iff_toInt_lt, Int32.le_iff_toInt_le, ← Int32.toInt_inj, Int32.reduceToInt, n_1, n_2, n_8, Int32.toNatClampNeg, Int64.lt_iff_toInt_lt, Int64.le_iff_toInt_le, ← Int64.toInt_inj, Int64.reduceToInt, Int32.toInt_toInt64, lg_cmp_ge, lg_cmp_le, lg_cmp_gt, lg_cmp_lt, lg_cmp_eq, Bool.false_eq_true, Bool.true_eq_false, reduceCtorEq, false_iff, true_iff, iff_true, iff_false, and_true, true_and, and_false, false_and, reduceIte, ite_true, ite_false, eq_self] at *)) <;> omega) (fun s21 hs21 => ?_)
                have Fs21 : Sm 20 23 σ s21 := by rw [hs21]; exact Sm.si Fs16 _ _ (by decide) (by decide)
                refine wa_iload rfl ?_
                refine wa_ireturn rfl rfl ?_
                exact ⟨_, rfl, Fs21, ((nx_gr_si hs21).trans ((nx_gr_si hs16).trans (khi3_0))), ((nxq_gi_si hs21 (by decide)).trans ((nxq_gi_si hs16 (by decide)).trans (khi3_1))), trivial⟩
        · refine wa_aload_n (i := 0) rfl rfl ?_
          refine wa_iload rfl ?_
          refine wa_Vi (d9 := d - 1) [.int _] [] (sp_X3_byteAt G (d := d - 1) (by omega) s1 _ (by rw [khi3_0]; first | assumption | exact Or.inl rfl | exact Or.inr rfl | (((try simp only [vp_in_iff, Int32.lt_iff_toInt_lt, Int32.le_iff_toInt_le, ← Int32.toInt_inj, Int32.reduceToInt, n_1, n_2, n_8, Int32.toNatClampNeg, Int64.lt_iff_toInt_lt, Int64.le_iff_toInt_le, ← Int64.toInt_inj, Int64.reduceToInt, Int32.toInt_toInt64, lg_cmp_ge, lg_cmp_le, lg_cmp_gt, lg_cmp_lt, lg_cmp_eq, Bool.false_eq_true, Bool.true_eq_false, reduceCtorEq, false_iff, true_iff, iff_true, iff_false, and_true, true_and, and_false, false_and, reduceIte, ite_true, ite_false, eq_self] at *)) <;> omega))) (rfl) rfl rfl (zr (by omega)) mk_X3_byteAt ly_18 ml_3_63 (Nat.le_of_ble_eq_true rfl) (fun x23 s22 hs22 => ?_)
          obtain ⟨zs22, -⟩ := pI hs22
          subst zs22
          refine wa_Si (d9 := d - 1) [.int _] [] (sp_X3_isLetter G (d := d - 1) (by omega) s1 _) (rfl) rfl rfl (zr (by omega)) mk_X3_isLetter ml_3_66 (Nat.le_of_ble_eq_true rfl) (fun x25 s24 hs24 => ?_)
          obtain ⟨bx25, ex25, zs24, -⟩ := pB hs24
          subst ex25
          subst zs24
          refine wa_if_ne o_X3_digits_85 (by decide) (fun h26 => ?_) (fun h26 => ?_)
          · replace h26 := bI_t (b := bx25) (rfl) h26
            refine wa_iconst (v := 0) (by decide) ?_
            refine wa_istoreD (lv' := [(5, .int (bI false)), (0, .ref 18), (1, .int a0), (2, .int a1), (3, .int l3), (4, .int l4)]) (by decide) rfl ?_
            refine wa_iload_n (i := 1) rfl rfl ?_
            refine wa_if_lt o_X3_digits_133 (by decide) (fun h27 => ?_) (fun h27 => ?_)
            · refine wa_iload rfl ?_
              refine wa_ireturn rfl rfl ?_
              exact ⟨_, rfl, Fs1, (khi3_0), (khi3_1), trivial⟩
            · refine wa_iload_n (i := 1) rfl rfl ?_
              refine wa_sipush (v := 2000) (by decide) ?_
              refine wa_icmp_gt o_X3_digits_133 (by decide) (fun h28 => ?_) (fun h28 => ?_)
              · refine wa_iload rfl ?_
                refine wa_ireturn rfl rfl ?_
                exact ⟨_, rfl, Fs1, (khi3_0), (khi3_1), trivial⟩
              · refine wa_aload_n (i := 0) rfl rfl ?_
                refine wa_getr ck_3 fl_3_15 ly_18 rf_18_1 ?_
                refine wa_iload_n (i := 1) rfl rfl ?_
                refine wa_iload rfl ?_
                refine wa_if_eq o_X3_digits_113 (by decide) (fun h29 => ?_) (fun h29 => ?_)
                · replace h29 := bI_f (b := false) (rfl) h29
                  refine wa_iconst (v := 3) (by decide) ?_
                  refine wa_iast ly_20 (by ((try simp only [vp_in_iff, Int32.lt_iff_toInt_lt, Int32.le_iff_toInt_le, ← Int32.toInt_inj, Int32.reduceToInt, n_1, n_2, n_8, Int32.toNatClampNeg, Int64.lt_iff_toInt_lt, Int64.le_iff_toInt_le, ← Int64.toInt_inj, Int64.reduceToInt, Int32.toInt_toInt64, lg_cmp_ge, lg_cmp_le, lg_cmp_gt, lg_cmp_lt, lg_cmp_eq, Bool.false_eq_true, Bool.true_eq_false, reduceCtorEq, false_iff, true_iff, iff_true, iff_false, and_true, true_and, and_false, false_and, reduceIte, ite_true, ite_false, eq_self] at *)) <;> omega) (fun s30 hs30 => ?_)
                  have Fs30 : Sm 20 23 σ s30 := by rw [hs30]; exact Sm.si Fs1 _ _ (by decide) (by decide)
                  refine wa_aload_n (i := 0) rfl rfl ?_
                  refine wa_getr ck_3 fl_3_22 ly_18 rf_18_3 ?_
                  refine wa_iload_n (i := 1) rfl rfl ?_
                  refine wa_iload_n (i := 3) rfl rfl ?_
                  refine wa_iload rfl ?_
                  refine wa_iload_n (i := 2) rfl rfl ?_
                  refine wa_isub ?_
                  refine wa_top (fun v31 hv31 => ?_)
                  have tv31 := i_subT hv31
                  clear hv31
                  refine wa_bipush (v := 7) (by decide) ?_
                  refine wa_iand ?_
                  refine wa_top (fun v32 hv32 => ?_)
                  have tv32 := i_andT hv32
                  clear hv32
                  refine wa_bipush (v := 20) (by decide) ?_
                  refine wa_ishl ?_
                  refine wa_top (fun v33 hv33 => ?_)
                  clear hv33
                  refine wa_ior ?_
                  refine wa_top (fun v34 hv34 => ?_)
                  clear hv34
                  refine wa_iast ly_22 (by ((try simp only [vp_in_iff, Int32.lt_iff_toInt_lt, Int32.le_iff_toInt_le, ← Int32.toInt_inj, Int32.reduceToInt, n_1, n_2, n_8, Int32.toNatClampNeg, Int64.lt_iff_toInt_lt, Int64.le_iff_toInt_le, ← Int64.toInt_inj, Int64.reduceToInt, Int32.toInt_toInt64, lg_cmp_ge, lg_cmp_le, lg_cmp_gt, lg_cmp_lt, lg_cmp_eq, Bool.false_eq_true, Bool.true_eq_false, reduceCtorEq, false_iff, true_iff, iff_true, iff_false, and_true, true_and, and_false, false_and, reduceIte, ite_true, ite_false, eq_self] at *)) <;> omega) (fun s35 hs35 => ?_)
                  have Fs35 : Sm 20 23 σ s35 := by rw [hs35]; exact Sm.si Fs30 _ _ (by decide) (by decide)
                  refine wa_iload rfl ?_
                  refine wa_ireturn rfl rfl ?_
                  exact ⟨_, rfl, Fs35, ((nx_gr_si hs35).trans ((nx_gr_si hs30).trans (khi3_0))), ((nxq_gi_si hs35 (by decide)).trans ((nxq_gi_si hs30 (by decide)).trans (khi3_1))), trivial⟩
                · replace h29 := bI_t (b := false) (rfl) h29
                  refine wa_iconst (v := 2) (by decide) ?_
                  refine wa_goto o_X3_digits_114 (by decide) ?_
                  refine wa_iast ly_20 (by ((try simp only [vp_in_iff, Int32.lt_iff_toInt_lt, Int32.le_iff_toInt_le, ← Int32.toInt_inj, Int32.reduceToInt, n_1, n_2, n_8, Int32.toNatClampNeg, Int64.lt_iff_toInt_lt, Int64.le_iff_toInt_le, ← Int64.toInt_inj, Int64.reduceToInt, Int32.toInt_toInt64, lg_cmp_ge, lg_cmp_le, lg_cmp_gt, lg_cmp_lt, lg_cmp_eq, Bool.false_eq_true, Bool.true_eq_false, reduceCtorEq, false_iff, true_iff, iff_true, iff_false, and_true, true_and, and_false, false_and, reduceIte, ite_true, ite_false, eq_self] at *)) <;> omega) (fun s36 hs36 => ?_)
                  have Fs36 : Sm 20 23 σ s36 := by rw [hs36]; exact Sm.si Fs1 _ _ (by decide) (by decide)
                  refine wa_aload_n (i := 0) rfl rfl ?_
                  refine wa_getr ck_3 fl_3_22 ly_18 rf_18_3 ?_
                  refine wa_iload_n (i := 1) rfl rfl ?_
                  refine wa_iload_n (i := 3) rfl rfl ?_
                  refine wa_iload rfl ?_
                  refine wa_iload_n (i := 2) rfl rfl ?_
                  refine wa_isub ?_
                  refine wa_top (fun v37 hv37 => ?_)
                  have tv37 := i_subT hv37
                  clear hv37
                  refine wa_bipush (v := 7) (by decide) ?_
                  refine wa_iand ?_
                  refine wa_top (fun v38 hv38 => ?_)
                  have tv38 := i_andT hv38
                  clear hv38
                  refine wa_bipush (v := 20) (by decide) ?_
                  refine wa_ishl ?_
                  refine wa_top (fun v39 hv39 => ?_)
                  clear hv39
                  refine wa_ior ?_
                  refine wa_top (fun v40 hv40 => ?_)
                  clear hv40
                  refine wa_iast ly_22 (by ((try simp only [vp_in_iff, Int32.lt_iff_toInt_lt, Int32.le_iff_toInt_le, ← Int32.toInt_inj, Int32.reduceToInt, n_1, n_2, n_8, Int32.toNatClampNeg, Int64.lt_iff_toInt_lt, Int64.le_iff_toInt_le, ← Int64.toInt_inj, Int64.reduceToInt, Int32.toInt_toInt64, lg_cmp_ge, lg_cmp_le, lg_cmp_gt, lg_cmp_lt, lg_cmp_eq, Bool.false_eq_true, Bool.true_eq_false, reduceCtorEq, false_iff, true_iff, iff_true, iff_false, and_true, true_and, and_false, false_and, reduceIte, ite_true, ite_false, eq_self] at *)) <;> omega) (fun s41 hs41 => ?_)
                  have Fs41 : Sm 20 23 σ s41 := by rw [hs41]; exact Sm.si Fs36 _ _ (by decide) (by decide)
                  refine wa_iload rfl ?_
                  refine wa_ireturn rfl rfl ?_
                  exact ⟨_, rfl, Fs41, ((nx_gr_si hs41).trans ((nx_gr_si hs36).trans (khi3_0))), ((nxq_gi_si hs41 (by decide)).trans ((nxq_gi_si hs36 (by decide)).trans (khi3_1))), trivial⟩
          · replace h26 := bI_f (b := bx25) (rfl) h26
            refine wa_iconst (v := 1) (by decide) ?_
            refine wa_goto o_X3_digits_86 (by decide) ?_
            refine wa_istoreD (lv' := [(5, .int (bI true)), (0, .ref 18), (1, .int a0), (2, .int a1), (3, .int l3), (4, .int l4)]) (by decide) rfl ?_
            refine wa_iload_n (i := 1) rfl rfl ?_
            refine wa_if_lt o_X3_digits_133 (by decide) (fun h42 => ?_) (fun h42 => ?_)
            · refine wa_iload rfl ?_
              refine wa_ireturn rfl rfl ?_
              exact ⟨_, rfl, Fs1, (khi3_0), (khi3_1), trivial⟩
            · refine wa_iload_n (i := 1) rfl rfl ?_
              refine wa_sipush (v := 2000) (by decide) ?_
              refine wa_icmp_gt o_X3_digits_133 (by decide) (fun h43 => ?_) (fun h43 => ?_)
              · refine wa_iload rfl ?_
                refine wa_ireturn rfl rfl ?_
                exact ⟨_, rfl, Fs1, (khi3_0), (khi3_1), trivial⟩
              · refine wa_aload_n (i := 0) rfl rfl ?_
                refine wa_getr ck_3 fl_3_15 ly_18 rf_18_1 ?_
                refine wa_iload_n (i := 1) rfl rfl ?_
                refine wa_iload rfl ?_
                refine wa_if_eq o_X3_digits_113 (by decide) (fun h44 => ?_) (fun h44 => ?_)
                · replace h44 := bI_f (b := true) (rfl) h44
                  refine wa_iconst (v := 3) (by decide) ?_
                  refine wa_iast ly_20 (by ((try simp only [vp_in_iff, Int32.lt_iff_toInt_lt, Int32.le_iff_toInt_le, ← Int32.toInt_inj, Int32.reduceToInt, n_1, n_2, n_8, Int32.toNatClampNeg, Int64.lt_iff_toInt_lt, Int64.le_iff_toInt_le, ← Int64.toInt_inj, Int64.reduceToInt, Int32.toInt_toInt64, lg_cmp_ge, lg_cmp_le, lg_cmp_gt, lg_cmp_lt, lg_cmp_eq, Bool.false_eq_true, Bool.true_eq_false, reduceCtorEq, false_iff, true_iff, iff_true, iff_false, and_true, true_and, and_false, false_and, reduceIte, ite_true, ite_false, eq_self] at *)) <;> omega) (fun s45 hs45 => ?_)
                  have Fs45 : Sm 20 23 σ s45 := by rw [hs45]; exact Sm.si Fs1 _ _ (by decide) (by decide)
                  refine wa_aload_n (i := 0) rfl rfl ?_
                  refine wa_getr ck_3 fl_3_22 ly_18 rf_18_3 ?_
                  refine wa_iload_n (i := 1) rfl rfl ?_
                  refine wa_iload_n (i := 3) rfl rfl ?_
                  refine wa_iload rfl ?_
                  refine wa_iload_n (i := 2) rfl rfl ?_
                  refine wa_isub ?_
                  refine wa_top (fun v46 hv46 => ?_)
                  have tv46 := i_subT hv46
                  clear hv46
                  refine wa_bipush (v := 7) (by decide) ?_
                  refine wa_iand ?_
                  refine wa_top (fun v47 hv47 => ?_)
                  have tv47 := i_andT hv47
                  clear hv47
                  refine wa_bipush (v := 20) (by decide) ?_
                  refine wa_ishl ?_
                  refine wa_top (fun v48 hv48 => ?_)
                  clear hv48
                  refine wa_ior ?_
                  refine wa_top (fun v49 hv49 => ?_)
                  clear hv49
                  refine wa_iast ly_22 (by ((try simp only [vp_in_iff, Int32.lt_iff_toInt_lt, Int32.le_iff_toInt_le, ← Int32.toInt_inj, Int32.reduceToInt, n_1, n_2, n_8, Int32.toNatClampNeg, Int64.lt_iff_toInt_lt, Int64.le_iff_toInt_le, ← Int64.toInt_inj, Int64.reduceToInt, Int32.toInt_toInt64, lg_cmp_ge, lg_cmp_le, lg_cmp_gt, lg_cmp_lt, lg_cmp_eq, Bool.false_eq_true, Bool.true_eq_false, reduceCtorEq, false_iff, true_iff, iff_true, iff_false, and_true, true_and, and_false, false_and, reduceIte, ite_true, ite_false, eq_self] at *)) <;> omega) (fun s50 hs50 => ?_)
                  have Fs50 : Sm 20 23 σ s50 := by rw [hs50]; exact Sm.si Fs45 _ _ (by decide) (by decide)
                  refine wa_iload rfl ?_
                  refine wa_ireturn rfl rfl ?_
                  exact ⟨_, rfl, Fs50, ((nx_gr_si hs50).trans ((nx_gr_si hs45).trans (khi3_0))), ((nxq_gi_si hs50 (by decide)).trans ((nxq_gi_si hs45 (by decide)).trans (khi3_1))), trivial⟩
                · replace h44 := bI_t (b := true) (rfl) h44
                  refine wa_iconst (v := 2) (by decide) ?_
                  refine wa_goto o_X3_digits_114 (by decide) ?_
                  refine wa_iast ly_20 (by ((try simp only [vp_in_iff, Int32.lt_iff_toInt_lt, Int32.le_iff_toInt_le, ← Int32.toInt_inj, Int32.reduceToInt, n_1, n_2, n_8, Int32.toNatClampNeg, Int64.lt_iff_toInt_lt, Int64.le_iff_toInt_le, ← Int64.toInt_inj, Int64.reduceToInt, Int32.toInt_toInt64, lg_cmp_ge, lg_cmp_le, lg_cmp_gt, lg_cmp_lt, lg_cmp_eq, Bool.false_eq_true, Bool.true_eq_false, reduceCtorEq, false_iff, true_iff, iff_true, iff_false, and_true, true_and, and_false, false_and, reduceIte, ite_true, ite_false, eq_self] at *)) <;> omega) (fun s51 hs51 => ?_)
                  have Fs51 : Sm 20 23 σ s51 := by rw [hs51]; exact Sm.si Fs1 _ _ (by decide) (by decide)
                  refine wa_aload_n (i := 0) rfl rfl ?_
                  refine wa_getr ck_3 fl_3_22 ly_18 rf_18_3 ?_
                  refine wa_iload_n (i := 1) rfl rfl ?_
                  refine wa_iload_n (i := 3) rfl rfl ?_
                  refine wa_iload rfl ?_
                  refine wa_iload_n (i := 2) rfl rfl ?_
                  refine wa_isub ?_
                  refine wa_top (fun v52 hv52 => ?_)
                  have tv52 := i_subT hv52
                  clear hv52
                  refine wa_bipush (v := 7) (by decide) ?_
                  refine wa_iand ?_
                  refine wa_top (fun v53 hv53 => ?_)
                  have tv53 := i_andT hv53
                  clear hv53
                  refine wa_bipush (v := 20) (by decide) ?_
                  refine wa_ishl ?_
                  refine wa_top (fun v54 hv54 => ?_)
                  clear hv54
                  refine wa_ior ?_
                  refine wa_top (fun v55 hv55 => ?_)
                  clear hv55
                  refine wa_iast ly_22 (by ((try simp only [vp_in_iff, Int32.lt_iff_toInt_lt, Int32.le_iff_toInt_le, ← Int32.toInt_inj, Int32.reduceToInt, n_1, n_2, n_8, Int32.toNatClampNeg, Int64.lt_iff_toInt_lt, Int64.le_iff_toInt_le, ← Int64.toInt_inj, Int64.reduceToInt, Int32.toInt_toInt64, lg_cmp_ge, lg_cmp_le, lg_cmp_gt, lg_cmp_lt, lg_cmp_eq, Bool.false_eq_true, Bool.true_eq_false, reduceCtorEq, false_iff, true_iff, iff_true, iff_false, and_true, true_and, and_false, false_and, reduceIte, ite_true, ite_false, eq_self] at *)) <;> omega) (fun s56 hs56 => ?_)
                  have Fs56 : Sm 20 23 σ s56 := by rw [hs56]; exact Sm.si Fs51 _ _ (by decide) (by decide)
                  refine wa_iload rfl ?_
                  refine wa_ireturn rfl rfl ?_
                  exact ⟨_, rfl, Fs56, ((nx_gr_si hs56).trans ((nx_gr_si hs51).trans (khi3_0))), ((nxq_gi_si hs56 (by decide)).trans ((nxq_gi_si hs51 (by decide)).trans (khi3_1))), trivial⟩
      · have mh4 := nle_mx h4
        refine wa_aload_n (i := 0) rfl rfl ?_
        refine wa_iload rfl ?_
        refine wa_Vi (d9 := d - 1) [.int _] [] (sp_X3_byteAt G (d := d - 1) (by omega) s1 _ (by rw [khi3_0]; first | assumption | exact Or.inl rfl | exact Or.inr rfl | (((try simp only [vp_in_iff, Int32.lt_iff_toInt_lt, Int32.le_iff_toInt_le, ← Int32.toInt_inj, Int32.reduceToInt, n_1, n_2, n_8, Int32.toNatClampNeg, Int64.lt_iff_toInt_lt, Int64.le_iff_toInt_le, ← Int64.toInt_inj, Int64.reduceToInt, Int32.toInt_toInt64, lg_cmp_ge, lg_cmp_le, lg_cmp_gt, lg_cmp_lt, lg_cmp_eq, Bool.false_eq_true, Bool.true_eq_false, reduceCtorEq, false_iff, true_iff, iff_true, iff_false, and_true, true_and, and_false, false_and, reduceIte, ite_true, ite_false, eq_self] at *)) <;> omega))) (rfl) rfl rfl (zr (by omega)) mk_X3_byteAt ly_18 ml_3_63 (Nat.le_of_ble_eq_true rfl) (fun x58 s57 hs57 => ?_)
        obtain ⟨zs57, -⟩ := pI hs57
        subst zs57
        refine wa_Si (d9 := d - 1) [.int _] [] (sp_X3_isDigit G (d := d - 1) (by omega) s1 _) (rfl) rfl rfl (zr (by omega)) mk_X3_isDigit ml_3_74 (Nat.le_of_ble_eq_true rfl) (fun x60 s59 hs59 => ?_)
        obtain ⟨bx60, ex60, zs59, -⟩ := pB hs59
        subst ex60
        subst zs59
        refine wa_if_eq o_X3_digits_60 (by decide) (fun h61 => ?_) (fun h61 => ?_)
        · replace h61 := bI_f (b := bx60) (rfl) h61
          refine wa_iload rfl ?_
          refine wa_iload_n (i := 2) rfl rfl ?_
          refine wa_isub ?_
          refine wa_top (fun v62 hv62 => ?_)
          have tv62 := i_subT hv62
          clear hv62
          refine wa_bipush (v := 6) (by decide) ?_
          refine wa_icmp_gt o_X3_digits_85 (by decide) (fun h63 => ?_) (fun h63 => ?_)
          · refine wa_iconst (v := 0) (by decide) ?_
            refine wa_istoreD (lv' := [(5, .int (bI false)), (0, .ref 18), (1, .int a0), (2, .int a1), (3, .int l3), (4, .int l4)]) (by decide) rfl ?_
            refine wa_iload_n (i := 1) rfl rfl ?_
            refine wa_if_lt o_X3_digits_133 (by decide) (fun h64 => ?_) (fun h64 => ?_)
            · refine wa_iload rfl ?_
              refine wa_ireturn rfl rfl ?_
              exact ⟨_, rfl, Fs1, (khi3_0), (khi3_1), trivial⟩
            · refine wa_iload_n (i := 1) rfl rfl ?_
              refine wa_sipush (v := 2000) (by decide) ?_
              refine wa_icmp_gt o_X3_digits_133 (by decide) (fun h65 => ?_) (fun h65 => ?_)
              · refine wa_iload rfl ?_
                refine wa_ireturn rfl rfl ?_
                exact ⟨_, rfl, Fs1, (khi3_0), (khi3_1), trivial⟩
              · refine wa_aload_n (i := 0) rfl rfl ?_
                refine wa_getr ck_3 fl_3_15 ly_18 rf_18_1 ?_
                refine wa_iload_n (i := 1) rfl rfl ?_
                refine wa_iload rfl ?_
                refine wa_if_eq o_X3_digits_113 (by decide) (fun h66 => ?_) (fun h66 => ?_)
                · replace h66 := bI_f (b := false) (rfl) h66
                  refine wa_iconst (v := 3) (by decide) ?_
                  refine wa_iast ly_20 (by ((try simp only [vp_in_iff, Int32.lt_iff_toInt_lt, Int32.le_iff_toInt_le, ← Int32.toInt_inj, Int32.reduceToInt, n_1, n_2, n_8, Int32.toNatClampNeg, Int64.lt_iff_toInt_lt, Int64.le_iff_toInt_le, ← Int64.toInt_inj, Int64.reduceToInt, Int32.toInt_toInt64, lg_cmp_ge, lg_cmp_le, lg_cmp_gt, lg_cmp_lt, lg_cmp_eq, Bool.false_eq_true, Bool.true_eq_false, reduceCtorEq, false_iff, true_iff, iff_true, iff_false, and_true, true_and, and_false, false_and, reduceIte, ite_true, ite_false, eq_self] at *)) <;> omega) (fun s67 hs67 => ?_)
                  have Fs67 : Sm 20 23 σ s67 := by rw [hs67]; exact Sm.si Fs1 _ _ (by decide) (by decide)
                  refine wa_aload_n (i := 0) rfl rfl ?_
                  refine wa_getr ck_3 fl_3_22 ly_18 rf_18_3 ?_
                  refine wa_iload_n (i := 1) rfl rfl ?_
                  refine wa_iload_n (i := 3) rfl rfl ?_
                  refine wa_iload rfl ?_
                  refine wa_iload_n (i := 2) rfl rfl ?_
                  refine wa_isub ?_
                  refine wa_top (fun v68 hv68 => ?_)
                  have tv68 := i_subT hv68
                  clear hv68
                  refine wa_bipush (v := 7) (by decide) ?_
                  refine wa_iand ?_
                  refine wa_top (fun v69 hv69 => ?_)
                  have tv69 := i_andT hv69
                  clear hv69
                  refine wa_bipush (v := 20) (by decide) ?_
                  refine wa_ishl ?_
                  refine wa_top (fun v70 hv70 => ?_)
                  clear hv70
                  refine wa_ior ?_
                  refine wa_top (fun v71 hv71 => ?_)
                  clear hv71
                  refine wa_iast ly_22 (by ((try simp only [vp_in_iff, Int32.lt_iff_toInt_lt, Int32.le_iff_toInt_le, ← Int32.toInt_inj, Int32.reduceToInt, n_1, n_2, n_8, Int32.toNatClampNeg, Int64.lt_iff_toInt_lt, Int64.le_iff_toInt_le, ← Int64.toInt_inj, Int64.reduceToInt, Int32.toInt_toInt64, lg_cmp_ge, lg_cmp_le, lg_cmp_gt, lg_cmp_lt, lg_cmp_eq, Bool.false_eq_true, Bool.true_eq_false, reduceCtorEq, false_iff, true_iff, iff_true, iff_false, and_true, true_and, and_false, false_and, reduceIte, ite_true, ite_false, eq_self] at *)) <;> omega) (fun s72 hs72 => ?_)
                  have Fs72 : Sm 20 23 σ s72 := by rw [hs72]; exact Sm.si Fs67 _ _ (by decide) (by decide)
                  refine wa_iload rfl ?_
                  refine wa_ireturn rfl rfl ?_
                  exact ⟨_, rfl, Fs72, ((nx_gr_si hs72).trans ((nx_gr_si hs67).trans (khi3_0))), ((nxq_gi_si hs72 (by decide)).trans ((nxq_gi_si hs67 (by decide)).trans (khi3_1))), trivial⟩
                · replace h66 := bI_t (b := false) (rfl) h66
                  refine wa_iconst (v := 2) (by decide) ?_
                  refine wa_goto o_X3_digits_114 (by decide) ?_
                  refine wa_iast ly_20 (by ((try simp only [vp_in_iff, Int32.lt_iff_toInt_lt, Int32.le_iff_toInt_le, ← Int32.toInt_inj, Int32.reduceToInt, n_1, n_2, n_8, Int32.toNatClampNeg, Int64.lt_iff_toInt_lt, Int64.le_iff_toInt_le, ← Int64.toInt_inj, Int64.reduceToInt, Int32.toInt_toInt64, lg_cmp_ge, lg_cmp_le, lg_cmp_gt, lg_cmp_lt, lg_cmp_eq, Bool.false_eq_true, Bool.true_eq_false, reduceCtorEq, false_iff, true_iff, iff_true, iff_false, and_true, true_and, and_false, false_and, reduceIte, ite_true, ite_false, eq_self] at *)) <;> omega) (fun s73 hs73 => ?_)
                  have Fs73 : Sm 20 23 σ s73 := by rw [hs73]; exact Sm.si Fs1 _ _ (by decide) (by decide)
                  refine wa_aload_n (i := 0) rfl rfl ?_
                  refine wa_getr ck_3 fl_3_22 ly_18 rf_18_3 ?_
                  refine wa_iload_n (i := 1) rfl rfl ?_
                  refine wa_iload_n (i := 3) rfl rfl ?_
                  refine wa_iload rfl ?_
                  refine wa_iload_n (i := 2) rfl rfl ?_
                  refine wa_isub ?_
                  refine wa_top (fun v74 hv74 => ?_)
                  have tv74 := i_subT hv74
                  clear hv74
                  refine wa_bipush (v := 7) (by decide) ?_
                  refine wa_iand ?_
                  refine wa_top (fun v75 hv75 => ?_)
                  have tv75 := i_andT hv75
                  clear hv75
                  refine wa_bipush (v := 20) (by decide) ?_
                  refine wa_ishl ?_
                  refine wa_top (fun v76 hv76 => ?_)
                  clear hv76
                  refine wa_ior ?_
                  refine wa_top (fun v77 hv77 => ?_)
                  clear hv77
                  refine wa_iast ly_22 (by ((try simp only [vp_in_iff, Int32.lt_iff_toInt_lt, Int32.le_iff_toInt_le, ← Int32.toInt_inj, Int32.reduceToInt, n_1, n_2, n_8, Int32.toNatClampNeg, Int64.lt_iff_toInt_lt, Int64.le_iff_toInt_le, ← Int64.toInt_inj, Int64.reduceToInt, Int32.toInt_toInt64, lg_cmp_ge, lg_cmp_le, lg_cmp_gt, lg_cmp_lt, lg_cmp_eq, Bool.false_eq_true, Bool.true_eq_false, reduceCtorEq, false_iff, true_iff, iff_true, iff_false, and_true, true_and, and_false, false_and, reduceIte, ite_true, ite_false, eq_self] at *)) <;> omega) (fun s78 hs78 => ?_)
                  have Fs78 : Sm 20 23 σ s78 := by rw [hs78]; exact Sm.si Fs73 _ _ (by decide) (by decide)
                  refine wa_iload rfl ?_
                  refine wa_ireturn rfl rfl ?_
                  exact ⟨_, rfl, Fs78, ((nx_gr_si hs78).trans ((nx_gr_si hs73).trans (khi3_0))), ((nxq_gi_si hs78 (by decide)).trans ((nxq_gi_si hs73 (by decide)).trans (khi3_1))), trivial⟩
          · refine wa_aload_n (i := 0) rfl rfl ?_
            refine wa_iload rfl ?_
            refine wa_Vi (d9 := d - 1) [.int _] [] (sp_X3_byteAt G (d := d - 1) (by omega) s1 _ (by rw [khi3_0]; first | assumption | exact Or.inl rfl | exact Or.inr rfl | (((try simp only [vp_in_iff, Int32.lt_iff_toInt_lt, Int32.le_iff_toInt_le, ← Int32.toInt_inj, Int32.reduceToInt, n_1, n_2, n_8, Int32.toNatClampNeg, Int64.lt_iff_toInt_lt, Int64.le_iff_toInt_le, ← Int64.toInt_inj, Int64.reduceToInt, Int32.toInt_toInt64, lg_cmp_ge, lg_cmp_le, lg_cmp_gt, lg_cmp_lt, lg_cmp_eq, Bool.false_eq_true, Bool.true_eq_false, reduceCtorEq, false_iff, true_iff, iff_true, iff_false, and_true, true_and, and_false, false_and, reduceIte, ite_true, ite_false, eq_self] at *)) <;> omega))) (rfl) rfl rfl (zr (by omega)) mk_X3_byteAt ly_18 ml_3_63 (Nat.le_of_ble_eq_true rfl) (fun x80 s79 hs79 => ?_)
            obtain ⟨zs79, -⟩ := pI hs79
            subst zs79
            refine wa_Si (d9 := d - 1) [.int _] [] (sp_X3_isLetter G (d := d - 1) (by omega) s1 _) (rfl) rfl rfl (zr (by omega)) mk_X3_isLetter ml_3_66 (Nat.le_of_ble_eq_true rfl) (fun x82 s81 hs81 => ?_)
            obtain ⟨bx82, ex82, zs81, -⟩ := pB hs81
            subst ex82
            subst zs81
            refine wa_if_ne o_X3_digits_85 (by decide) (fun h83 => ?_) (fun h83 => ?_)
            · replace h83 := bI_t (b := bx82) (rfl) h83
              refine wa_iconst (v := 0) (by decide) ?_
              refine wa_istoreD (lv' := [(5, .int (bI false)), (0, .ref 18), (1, .int a0), (2, .int a1), (3, .int l3), (4, .int l4)]) (by decide) rfl ?_
              refine wa_iload_n (i := 1) rfl rfl ?_
              refine wa_if_lt o_X3_digits_133 (by decide) (fun h84 => ?_) (fun h84 => ?_)
              · refine wa_iload rfl ?_
                refine wa_ireturn rfl rfl ?_
                exact ⟨_, rfl, Fs1, (khi3_0), (khi3_1), trivial⟩
              · refine wa_iload_n (i := 1) rfl rfl ?_
                refine wa_sipush (v := 2000) (by decide) ?_
                refine wa_icmp_gt o_X3_digits_133 (by decide) (fun h85 => ?_) (fun h85 => ?_)
                · refine wa_iload rfl ?_
                  refine wa_ireturn rfl rfl ?_
                  exact ⟨_, rfl, Fs1, (khi3_0), (khi3_1), trivial⟩
                · refine wa_aload_n (i := 0) rfl rfl ?_
                  refine wa_getr ck_3 fl_3_15 ly_18 rf_18_1 ?_
                  refine wa_iload_n (i := 1) rfl rfl ?_
                  refine wa_iload rfl ?_
                  refine wa_if_eq o_X3_digits_113 (by decide) (fun h86 => ?_) (fun h86 => ?_)
                  · replace h86 := bI_f (b := false) (rfl) h86
                    refine wa_iconst (v := 3) (by decide) ?_
                    refine wa_iast ly_20 (by ((try simp only [vp_in_iff, Int32.lt_iff_toInt_lt, Int32.le_iff_toInt_le, ← Int32.toInt_inj, Int32.reduceToInt, n_1, n_2, n_8, Int32.toNatClampNeg, Int64.lt_iff_toInt_lt, Int64.le_iff_toInt_le, ← Int64.toInt_inj, Int64.reduceToInt, Int32.toInt_toInt64, lg_cmp_ge, lg_cmp_le, lg_cmp_gt, lg_cmp_lt, lg_cmp_eq, Bool.false_eq_true, Bool.true_eq_false, reduceCtorEq, false_iff, true_iff, iff_true, iff_false, and_true, true_and, and_false, false_and, reduceIte, ite_true, ite_false, eq_self] at *)) <;> omega) (fun s87 hs87 => ?_)
                    have Fs87 : Sm 20 23 σ s87 := by rw [hs87]; exact Sm.si Fs1 _ _ (by decide) (by decide)
                    refine wa_aload_n (i := 0) rfl rfl ?_
                    refine wa_getr ck_3 fl_3_22 ly_18 rf_18_3 ?_
                    refine wa_iload_n (i := 1) rfl rfl ?_
                    refine wa_iload_n (i := 3) rfl rfl ?_
                    refine wa_iload rfl ?_
                    refine wa_iload_n (i := 2) rfl rfl ?_
                    refine wa_isub ?_
                    refine wa_top (fun v88 hv88 => ?_)
                    have tv88 := i_subT hv88
                    clear hv88
                    refine wa_bipush (v := 7) (by decide) ?_
                    refine wa_iand ?_
                    refine wa_top (fun v89 hv89 => ?_)
                    have tv89 := i_andT hv89
                    clear hv89
                    refine wa_bipush (v := 20) (by decide) ?_
                    refine wa_ishl ?_
                    refine wa_top (fun v90 hv90 => ?_)
                    clear hv90
                    refine wa_ior ?_
                    refine wa_top (fun v91 hv91 => ?_)
                    clear hv91
                    refine wa_iast ly_22 (by ((try simp only [vp_in_iff, Int32.lt_iff_toInt_lt, Int32.le_iff_toInt_le, ← Int32.toInt_inj, Int32.reduceToInt, n_1, n_2, n_8, Int32.toNatClampNeg, Int64.lt_iff_toInt_lt, Int64.le_iff_toInt_le, ← Int64.toInt_inj, Int64.reduceToInt, Int32.toInt_toInt64, lg_cmp_ge, lg_cmp_le, lg_cmp_gt, lg_cmp_lt, lg_cmp_eq, Bool.false_eq_true, Bool.true_eq_false, reduceCtorEq, false_iff, true_iff, iff_true, iff_false, and_true, true_and, and_false, false_and, reduceIte, ite_true, ite_false, eq_self] at *)) <;> omega) (fun s92 hs92 => ?_)
                    have Fs92 : Sm 20 23 σ s92 := by rw [hs92]; exact Sm.si Fs87 _ _ (by decide) (by decide)
                    refine wa_iload rfl ?_
                    refine wa_ireturn rfl rfl ?_
                    exact ⟨_, rfl, Fs92, ((nx_gr_si hs92).trans ((nx_gr_si hs87).trans (khi3_0))), ((nxq_gi_si hs92 (by decide)).trans ((nxq_gi_si hs87 (by decide)).trans (khi3_1))), trivial⟩
                  · replace h86 := bI_t (b := false) (rfl) h86
                    refine wa_iconst (v := 2) (by decide) ?_
                    refine wa_goto o_X3_digits_114 (by decide) ?_
                    refine wa_iast ly_20 (by ((try simp only [vp_in_iff, Int32.lt_iff_toInt_lt, Int32.le_iff_toInt_le, ← Int32.toInt_inj, Int32.reduceToInt, n_1, n_2, n_8, Int32.toNatClampNeg, Int64.lt_iff_toInt_lt, Int64.le_iff_toInt_le, ← Int64.toInt_inj, Int64.reduceToInt, Int32.toInt_toInt64, lg_cmp_ge, lg_cmp_le, lg_cmp_gt, lg_cmp_lt, lg_cmp_eq, Bool.false_eq_true, Bool.true_eq_false, reduceCtorEq, false_iff, true_iff, iff_true, iff_false, and_true, true_and, and_false, false_and, reduceIte, ite_true, ite_false, eq_self] at *)) <;> omega) (fun s93 hs93 => ?_)
                    have Fs93 : Sm 20 23 σ s93 := by rw [hs93]; exact Sm.si Fs1 _ _ (by decide) (by decide)
                    refine wa_aload_n (i := 0) rfl rfl ?_
                    refine wa_getr ck_3 fl_3_22 ly_18 rf_18_3 ?_
                    refine wa_iload_n (i := 1) rfl rfl ?_
                    refine wa_iload_n (i := 3) rfl rfl ?_
                    refine wa_iload rfl ?_
                    refine wa_iload_n (i := 2) rfl rfl ?_
                    refine wa_isub ?_
                    refine wa_top (fun v94 hv94 => ?_)
                    have tv94 := i_subT hv94
                    clear hv94
                    refine wa_bipush (v := 7) (by decide) ?_
                    refine wa_iand ?_
                    refine wa_top (fun v95 hv95 => ?_)
                    have tv95 := i_andT hv95
                    clear hv95
                    refine wa_bipush (v := 20) (by decide) ?_
                    refine wa_ishl ?_
                    refine wa_top (fun v96 hv96 => ?_)
                    clear hv96
                    refine wa_ior ?_
                    refine wa_top (fun v97 hv97 => ?_)
                    clear hv97
                    refine wa_iast ly_22 (by ((try simp only [vp_in_iff, Int32.lt_iff_toInt_lt, Int32.le_iff_toInt_le, ← Int32.toInt_inj, Int32.reduceToInt, n_1, n_2, n_8, Int32.toNatClampNeg, Int64.lt_iff_toInt_lt, Int64.le_iff_toInt_le, ← Int64.toInt_inj, Int64.reduceToInt, Int32.toInt_toInt64, lg_cmp_ge, lg_cmp_le, lg_cmp_gt, lg_cmp_lt, lg_cmp_eq, Bool.false_eq_true, Bool.true_eq_false, reduceCtorEq, false_iff, true_iff, iff_true, iff_false, and_true, true_and, and_false, false_and, reduceIte, ite_true, ite_false, eq_self] at *)) <;> omega) (fun s98 hs98 => ?_)
                    have Fs98 : Sm 20 23 σ s98 := by rw [hs98]; exact Sm.si Fs93 _ _ (by decide) (by decide)
                    refine wa_iload rfl ?_
                    refine wa_ireturn rfl rfl ?_
                    exact ⟨_, rfl, Fs98, ((nx_gr_si hs98).trans ((nx_gr_si hs93).trans (khi3_0))), ((nxq_gi_si hs98 (by decide)).trans ((nxq_gi_si hs93 (by decide)).trans (khi3_1))), trivial⟩
            · replace h83 := bI_f (b := bx82) (rfl) h83
              refine wa_iconst (v := 1) (by decide) ?_
              refine wa_goto o_X3_digits_86 (by decide) ?_
              refine wa_istoreD (lv' := [(5, .int (bI true)), (0, .ref 18), (1, .int a0), (2, .int a1), (3, .int l3), (4, .int l4)]) (by decide) rfl ?_
              refine wa_iload_n (i := 1) rfl rfl ?_
              refine wa_if_lt o_X3_digits_133 (by decide) (fun h99 => ?_) (fun h99 => ?_)
              · refine wa_iload rfl ?_
                refine wa_ireturn rfl rfl ?_
                exact ⟨_, rfl, Fs1, (khi3_0), (khi3_1), trivial⟩
              · refine wa_iload_n (i := 1) rfl rfl ?_
                refine wa_sipush (v := 2000) (by decide) ?_
                refine wa_icmp_gt o_X3_digits_133 (by decide) (fun h100 => ?_) (fun h100 => ?_)
                · refine wa_iload rfl ?_
                  refine wa_ireturn rfl rfl ?_
                  exact ⟨_, rfl, Fs1, (khi3_0), (khi3_1), trivial⟩
                · refine wa_aload_n (i := 0) rfl rfl ?_
                  refine wa_getr ck_3 fl_3_15 ly_18 rf_18_1 ?_
                  refine wa_iload_n (i := 1) rfl rfl ?_
                  refine wa_iload rfl ?_
                  refine wa_if_eq o_X3_digits_113 (by decide) (fun h101 => ?_) (fun h101 => ?_)
                  · replace h101 := bI_f (b := true) (rfl) h101
                    refine wa_iconst (v := 3) (by decide) ?_
                    refine wa_iast ly_20 (by ((try simp only [vp_in_iff, Int32.lt_iff_toInt_lt, Int32.le_iff_toInt_le, ← Int32.toInt_inj, Int32.reduceToInt, n_1, n_2, n_8, Int32.toNatClampNeg, Int64.lt_iff_toInt_lt, Int64.le_iff_toInt_le, ← Int64.toInt_inj, Int64.reduceToInt, Int32.toInt_toInt64, lg_cmp_ge, lg_cmp_le, lg_cmp_gt, lg_cmp_lt, lg_cmp_eq, Bool.false_eq_true, Bool.true_eq_false, reduceCtorEq, false_iff, true_iff, iff_true, iff_false, and_true, true_and, and_false, false_and, reduceIte, ite_true, ite_false, eq_self] at *)) <;> omega) (fun s102 hs102 => ?_)
                    have Fs102 : Sm 20 23 σ s102 := by rw [hs102]; exact Sm.si Fs1 _ _ (by decide) (by decide)
                    refine wa_aload_n (i := 0) rfl rfl ?_
                    refine wa_getr ck_3 fl_3_22 ly_18 rf_18_3 ?_
                    refine wa_iload_n (i := 1) rfl rfl ?_
                    refine wa_iload_n (i := 3) rfl rfl ?_
                    refine wa_iload rfl ?_
                    refine wa_iload_n (i := 2) rfl rfl ?_
                    refine wa_isub ?_
                    refine wa_top (fun v103 hv103 => ?_)
                    have tv103 := i_subT hv103
                    clear hv103
                    refine wa_bipush (v := 7) (by decide) ?_
                    refine wa_iand ?_
                    refine wa_top (fun v104 hv104 => ?_)
                    have tv104 := i_andT hv104
                    clear hv104
                    refine wa_bipush (v := 20) (by decide) ?_
                    refine wa_ishl ?_
                    refine wa_top (fun v105 hv105 => ?_)
                    clear hv105
                    refine wa_ior ?_
                    refine wa_top (fun v106 hv106 => ?_)
                    clear hv106
                    refine wa_iast ly_22 (by ((try simp only [vp_in_iff, Int32.lt_iff_toInt_lt, Int32.le_iff_toInt_le, ← Int32.toInt_inj, Int32.reduceToInt, n_1, n_2, n_8, Int32.toNatClampNeg, Int64.lt_iff_toInt_lt, Int64.le_iff_toInt_le, ← Int64.toInt_inj, Int64.reduceToInt, Int32.toInt_toInt64, lg_cmp_ge, lg_cmp_le, lg_cmp_gt, lg_cmp_lt, lg_cmp_eq, Bool.false_eq_true, Bool.true_eq_false, reduceCtorEq, false_iff, true_iff, iff_true, iff_false, and_true, true_and, and_false, false_and, reduceIte, ite_true, ite_false, eq_self] at *)) <;> omega) (fun s107 hs107 => ?_)
                    have Fs107 : Sm 20 23 σ s107 := by rw [hs107]; exact Sm.si Fs102 _ _ (by decide) (by decide)
                    refine wa_iload rfl ?_
                    refine wa_ireturn rfl rfl ?_
                    exact ⟨_, rfl, Fs107, ((nx_gr_si hs107).trans ((nx_gr_si hs102).trans (khi3_0))), ((nxq_gi_si hs107 (by decide)).trans ((nxq_gi_si hs102 (by decide)).trans (khi3_1))), trivial⟩
                  · replace h101 := bI_t (b := true) (rfl) h101
                    refine wa_iconst (v := 2) (by decide) ?_
                    refine wa_goto o_X3_digits_114 (by decide) ?_
                    refine wa_iast ly_20 (by ((try simp only [vp_in_iff, Int32.lt_iff_toInt_lt, Int32.le_iff_toInt_le, ← Int32.toInt_inj, Int32.reduceToInt, n_1, n_2, n_8, Int32.toNatClampNeg, Int64.lt_iff_toInt_lt, Int64.le_iff_toInt_le, ← Int64.toInt_inj, Int64.reduceToInt, Int32.toInt_toInt64, lg_cmp_ge, lg_cmp_le, lg_cmp_gt, lg_cmp_lt, lg_cmp_eq, Bool.false_eq_true, Bool.true_eq_false, reduceCtorEq, false_iff, true_iff, iff_true, iff_false, and_true, true_and, and_false, false_and, reduceIte, ite_true, ite_false, eq_self] at *)) <;> omega) (fun s108 hs108 => ?_)
                    have Fs108 : Sm 20 23 σ s108 := by rw [hs108]; exact Sm.si Fs1 _ _ (by decide) (by decide)
                    refine wa_aload_n (i := 0) rfl rfl ?_
                    refine wa_getr ck_3 fl_3_22 ly_18 rf_18_3 ?_
                    refine wa_iload_n (i := 1) rfl rfl ?_
                    refine wa_iload_n (i := 3) rfl rfl ?_
                    refine wa_iload rfl ?_
                    refine wa_iload_n (i := 2) rfl rfl ?_
                    refine wa_isub ?_
                    refine wa_top (fun v109 hv109 => ?_)
                    have tv109 := i_subT hv109
                    clear hv109
                    refine wa_bipush (v := 7) (by decide) ?_
                    refine wa_iand ?_
                    refine wa_top (fun v110 hv110 => ?_)
                    have tv110 := i_andT hv110
                    clear hv110
                    refine wa_bipush (v := 20) (by decide) ?_
                    refine wa_ishl ?_
                    refine wa_top (fun v111 hv111 => ?_)
                    clear hv111
                    refine wa_ior ?_
                    refine wa_top (fun v112 hv112 => ?_)
                    clear hv112
                    refine wa_iast ly_22 (by ((try simp only [vp_in_iff, Int32.lt_iff_toInt_lt, Int32.le_iff_toInt_le, ← Int32.toInt_inj, Int32.reduceToInt, n_1, n_2, n_8, Int32.toNatClampNeg, Int64.lt_iff_toInt_lt, Int64.le_iff_toInt_le, ← Int64.toInt_inj, Int64.reduceToInt, Int32.toInt_toInt64, lg_cmp_ge, lg_cmp_le, lg_cmp_gt, lg_cmp_lt, lg_cmp_eq, Bool.false_eq_true, Bool.true_eq_false, reduceCtorEq, false_iff, true_iff, iff_true, iff_false, and_true, true_and, and_false, false_and, reduceIte, ite_true, ite_false, eq_self] at *)) <;> omega) (fun s113 hs113 => ?_)
                    have Fs113 : Sm 20 23 σ s113 := by rw [hs113]; exact Sm.si Fs108 _ _ (by decide) (by decide)
                    refine wa_iload rfl ?_
                    refine wa_ireturn rfl rfl ?_
                    exact ⟨_, rfl, Fs113, ((nx_gr_si hs113).trans ((nx_gr_si hs108).trans (khi3_0))), ((nxq_gi_si hs113 (by decide)).trans ((nxq_gi_si hs108 (by decide)).trans (khi3_1))), trivial⟩
        · replace h61 := bI_t (b := bx60) (rfl) h61
          refine wa_iload rfl ?_
          refine wa_iload_n (i := 2) rfl rfl ?_
          refine wa_isub ?_
          refine wa_top (fun v114 hv114 => ?_)
          have tv114 := i_subT hv114
          clear hv114
          refine wa_bipush (v := 6) (by decide) ?_
          refine wa_icmp_ge o_X3_digits_52 (by decide) (fun h115 => ?_) (fun h115 => ?_)
          · refine wa_iload_n (i := 3) rfl rfl ?_
            refine wa_istore_nD (lv' := [(3, .int l3), (0, .ref 18), (1, .int a0), (2, .int a1), (4, .int l4)]) (i := 3) rfl (by decide) rfl ?_
            refine wa_iinc (v := (1)) (lv' := fun y116 => [(4, .int y116), (3, .int l3), (0, .ref 18), (1, .int a0), (2, .int a1)]) (by decide) rfl (by decide) (fun _ => rfl) (fun y116 hy116 => ?_)
            have ty116 := i_addT hy116.symm
            clear hy116
            refine wa_goto o_X3_digits_5 (by decide) ?_
            refine wa_pick [2, 3, 4, 1, 0] rfl ?_
            exact ih2 _ (by ((try simp only [vp_in_iff, Int32.lt_iff_toInt_lt, Int32.le_iff_toInt_le, ← Int32.toInt_inj, Int32.reduceToInt, n_1, n_2, n_8, Int32.toNatClampNeg, Int64.lt_iff_toInt_lt, Int64.le_iff_toInt_le, ← Int64.toInt_inj, Int64.reduceToInt, Int32.toInt_toInt64, lg_cmp_ge, lg_cmp_le, lg_cmp_gt, lg_cmp_lt, lg_cmp_eq, Bool.false_eq_true, Bool.true_eq_false, reduceCtorEq, false_iff, true_iff, iff_true, iff_false, and_true, true_and, and_false, false_and, reduceIte, ite_true, ite_false, eq_self] at *)) <;> omega) _ _ _ ⟨Fs1, (khi3_0), (khi3_1), (khi3_2), trivial⟩ rfl
          · have mh115 := nle_mx h115
            refine wa_iload_n (i := 3) rfl rfl ?_
            refine wa_bipush (v := 10) (by decide) ?_
            refine wa_imul ?_
            refine wa_top (fun v117 hv117 => ?_)
            have tv117 := i_mulT hv117
            clear hv117
            refine wa_aload_n (i := 0) rfl rfl ?_
            refine wa_iload rfl ?_
            refine wa_Vi (d9 := d - 1) [.int _] [.int v117] (sp_X3_byteAt G (d := d - 1) (by omega) s1 _ (by rw [khi3_0]; first | assumption | exact Or.inl rfl | exact Or.inr rfl | (((try simp only [vp_in_iff, Int32.lt_iff_toInt_lt, Int32.le_iff_toInt_le, ← Int32.toInt_inj, Int32.reduceToInt, n_1, n_2, n_8, Int32.toNatClampNeg, Int64.lt_iff_toInt_lt, Int64.le_iff_toInt_le, ← Int64.toInt_inj, Int64.reduceToInt, Int32.toInt_toInt64, lg_cmp_ge, lg_cmp_le, lg_cmp_gt, lg_cmp_lt, lg_cmp_eq, Bool.false_eq_true, Bool.true_eq_false, reduceCtorEq, false_iff, true_iff, iff_true, iff_false, and_true, true_and, and_false, false_and, reduceIte, ite_true, ite_false, eq_self] at *)) <;> omega))) (rfl) rfl rfl (zr (by omega)) mk_X3_byteAt ly_18 ml_3_63 (Nat.le_of_ble_eq_true rfl) (fun x119 s118 hs118 => ?_)
            obtain ⟨zs118, -⟩ := pI hs118
            subst zs118
            refine wa_iadd ?_
            refine wa_top (fun v120 hv120 => ?_)
            have tv120 := i_addT hv120
            clear hv120
            refine wa_bipush (v := 48) (by decide) ?_
            refine wa_isub ?_
            refine wa_top (fun v121 hv121 => ?_)
            have tv121 := i_subT hv121
            clear hv121
            refine wa_goto o_X3_digits_53 (by decide) ?_
            refine wa_istore_nD (lv' := [(3, .int v121), (0, .ref 18), (1, .int a0), (2, .int a1), (4, .int l4)]) (i := 3) rfl (by decide) rfl ?_
            refine wa_iinc (v := (1)) (lv' := fun y122 => [(4, .int y122), (3, .int v121), (0, .ref 18), (1, .int a0), (2, .int a1)]) (by decide) rfl (by decide) (fun _ => rfl) (fun y122 hy122 => ?_)
            have ty122 := i_addT hy122.symm
            clear hy122
            refine wa_goto o_X3_digits_5 (by decide) ?_
            refine wa_pick [2, 3, 4, 1, 0] rfl ?_
            exact ih2 _ (by ((try simp only [vp_in_iff, Int32.lt_iff_toInt_lt, Int32.le_iff_toInt_le, ← Int32.toInt_inj, Int32.reduceToInt, n_1, n_2, n_8, Int32.toNatClampNeg, Int64.lt_iff_toInt_lt, Int64.le_iff_toInt_le, ← Int64.toInt_inj, Int64.reduceToInt, Int32.toInt_toInt64, lg_cmp_ge, lg_cmp_le, lg_cmp_gt, lg_cmp_lt, lg_cmp_eq, Bool.false_eq_true, Bool.true_eq_false, reduceCtorEq, false_iff, true_iff, iff_true, iff_false, and_true, true_and, and_false, false_and, reduceIte, ite_true, ite_false, eq_self] at *)) <;> omega) _ _ _ ⟨Fs1, (khi3_0), (khi3_1), (khi3_2), trivial⟩ rfl
  exact hi3 _ _ _ _ ⟨(Sm.rf 20 23 σ), (rfl), (rfl), (rfl), trivial⟩ rfl
set_option maxHeartbeats 4000000 in
theorem sp_X3_sign (G : kG9) {d : Nat} (hd : 4 ≤ d) (σ : St) (a0 : Int32) (a1 : Int32) (r1 : gr σ 18 6 = 1 ∨ gr σ 18 6 = 6) : Ct G M_X3_sign d [.ref 18, .int a0, .int a1] σ (fun r σ' => ∃ x : Int32, r = some (.int x) ∧ Sm 20 21 σ σ' ∧ (gr σ' 18 6 = gr σ 18 6) ∧ (gi σ' 18 5 = gi σ 18 5) ∧ True) := by
  refine wa_start (by decide) rfl (Nat.le_of_ble_eq_true rfl) (lv := [(0, .ref 18), (1, .int a0), (2, .int a1)]) rfl o_X3_sign_0 rfl ?_
  have ua0 := Int32.toInt_lt a0
  have wa0 := Int32.le_toInt a0
  have ua1 := Int32.toInt_lt a1
  have wa1 := Int32.le_toInt a1
  refine wa_iconst (v := 3) (by decide) ?_
  refine wa_istore_nD (lv' := [(3, .int 3), (0, .ref 18), (1, .int a0), (2, .int a1)]) (i := 3) rfl (by decide) rfl ?_
  refine wa_bipush (v := 16) (by decide) ?_
  refine wa_istoreD (lv' := [(4, .int 16), (3, .int 3), (0, .ref 18), (1, .int a0), (2, .int a1)]) (by decide) rfl ?_
  refine wa_pick [2, 3, 4, 1, 0] rfl ?_
  have hi3 : ∀ (n9_6 : Nat) (l3 : Int32) (l4 : Int32) (s1 : St), ((Sm 20 21 σ s1) ∧ (gr s1 18 6 = gr σ 18 6) ∧ (gi s1 18 5 = gi σ 18 5) ∧ (l4.toInt ≤ 16) ∧ (True)) → (l4.toInt + 1).toNat = n9_6 → WA G M_X3_sign (ZM G M_X3_sign d (fun r σ' => ∃ x : Int32, r = some (.int x) ∧ Sm 20 21 σ σ' ∧ (gr σ' 18 6 = gr σ 18 6) ∧ (gi σ' 18 5 = gi σ 18 5) ∧ True)) B_X3_sign_6 [(0, .ref 18), (1, .int a0), (2, .int a1), (3, .int l3), (4, .int l4)] [] s1 := by
    intro n9_6
    induction n9_6 using Nat.strongRecOn with
    | _ n9_6 ih2 =>
      intro l3 l4 s1 i9 m9_6
      obtain ⟨Fs1, khi3_0, khi3_1, jhi3_0, -⟩ := i9
      have ul3 := Int32.toInt_lt l3
      have wl3 := Int32.le_toInt l3
      have ul4 := Int32.toInt_lt l4
      have wl4 := Int32.le_toInt l4
      refine wa_iload rfl ?_
      refine wa_if_lt o_X3_sign_78 (by decide) (fun h4 => ?_) (fun h4 => ?_)
      · refine wa_iload_n (i := 1) rfl rfl ?_
        refine wa_if_lt o_X3_sign_96 (by decide) (fun h5 => ?_) (fun h5 => ?_)
        · refine wa_iload_n (i := 2) rfl rfl ?_
          refine wa_iload_n (i := 3) rfl rfl ?_
          refine wa_bipush (v := 16) (by decide) ?_
          refine wa_icmp_lt o_X3_sign_107 (by decide) (fun h6 => ?_) (fun h6 => ?_)
          · refine wa_iconst (v := 1) (by decide) ?_
            refine wa_iadd ?_
            refine wa_top (fun v7 hv7 => ?_)
            have tv7 := i_addT hv7
            clear hv7
            refine wa_ireturn rfl rfl ?_
            exact ⟨_, rfl, Fs1, (khi3_0), (khi3_1), trivial⟩
          · refine wa_iconst (v := 2) (by decide) ?_
            refine wa_goto o_X3_sign_108 (by decide) ?_
            refine wa_iadd ?_
            refine wa_top (fun v8 hv8 => ?_)
            have tv8 := i_addT hv8
            clear hv8
            refine wa_ireturn rfl rfl ?_
            exact ⟨_, rfl, Fs1, (khi3_0), (khi3_1), trivial⟩
        · refine wa_iload_n (i := 1) rfl rfl ?_
          refine wa_sipush (v := 2000) (by decide) ?_
          refine wa_icmp_gt o_X3_sign_96 (by decide) (fun h9 => ?_) (fun h9 => ?_)
          · refine wa_iload_n (i := 2) rfl rfl ?_
            refine wa_iload_n (i := 3) rfl rfl ?_
            refine wa_bipush (v := 16) (by decide) ?_
            refine wa_icmp_lt o_X3_sign_107 (by decide) (fun h10 => ?_) (fun h10 => ?_)
            · refine wa_iconst (v := 1) (by decide) ?_
              refine wa_iadd ?_
              refine wa_top (fun v11 hv11 => ?_)
              have tv11 := i_addT hv11
              clear hv11
              refine wa_ireturn rfl rfl ?_
              exact ⟨_, rfl, Fs1, (khi3_0), (khi3_1), trivial⟩
            · refine wa_iconst (v := 2) (by decide) ?_
              refine wa_goto o_X3_sign_108 (by decide) ?_
              refine wa_iadd ?_
              refine wa_top (fun v12 hv12 => ?_)
              have tv12 := i_addT hv12
              clear hv12
              refine wa_ireturn rfl rfl ?_
              exact ⟨_, rfl, Fs1, (khi3_0), (khi3_1), trivial⟩
          · refine wa_aload_n (i := 0) rfl rfl ?_
            refine wa_getr ck_3 fl_3_15 ly_18 rf_18_1 ?_
            refine wa_iload_n (i := 1) rfl rfl ?_
            refine wa_iload_n (i := 3) rfl rfl ?_
            refine wa_iast ly_20 (by ((try simp only [vp_in_iff, Int32.lt_iff_toInt_lt, Int32.le_iff_toInt_le, ← Int32.toInt_inj, Int32.reduceToInt, n_1, n_2, n_8, Int32.toNatClampNeg, Int64.lt_iff_toInt_lt, Int64.le_iff_toInt_le, ← Int64.toInt_inj, Int64.reduceToInt, Int32.toInt_toInt64, lg_cmp_ge, lg_cmp_le, lg_cmp_gt, lg_cmp_lt, lg_cmp_eq, Bool.false_eq_true, Bool.true_eq_false, reduceCtorEq, false_iff, true_iff, iff_true, iff_false, and_true, true_and, and_false, false_and, reduceIte, ite_true, ite_false, eq_self] at *)) <;> omega) (fun s13 hs13 => ?_)
            have Fs13 : Sm 20 21 σ s13 := by rw [hs13]; exact Sm.si Fs1 _ _ (by decide) (by decide)
            refine wa_iload_n (i := 2) rfl rfl ?_
            refine wa_iload_n (i := 3) rfl rfl ?_
            refine wa_bipush (v := 16) (by decide) ?_
            refine wa_icmp_lt o_X3_sign_107 (by decide) (fun h14 => ?_) (fun h14 => ?_)
            · refine wa_iconst (v := 1) (by decide) ?_
              refine wa_iadd ?_
              refine wa_top (fun v15 hv15 => ?_)
              have tv15 := i_addT hv15
              clear hv15
              refine wa_ireturn rfl rfl ?_
              exact ⟨_, rfl, Fs13, ((nx_gr_si hs13).trans (khi3_0)), ((nxq_gi_si hs13 (by decide)).trans (khi3_1)), trivial⟩
            · refine wa_iconst (v := 2) (by decide) ?_
              refine wa_goto o_X3_sign_108 (by decide) ?_
              refine wa_iadd ?_
              refine wa_top (fun v16 hv16 => ?_)
              have tv16 := i_addT hv16
              clear hv16
              refine wa_ireturn rfl rfl ?_
              exact ⟨_, rfl, Fs13, ((nx_gr_si hs13).trans (khi3_0)), ((nxq_gi_si hs13 (by decide)).trans (khi3_1)), trivial⟩
      · refine wa_iload_n (i := 3) rfl rfl ?_
        refine wa_iconst (v := 3) (by decide) ?_
        refine wa_icmp_ne o_X3_sign_78 (by decide) (fun h17 => ?_) (fun h17 => ?_)
        · refine wa_iload_n (i := 1) rfl rfl ?_
          refine wa_if_lt o_X3_sign_96 (by decide) (fun h18 => ?_) (fun h18 => ?_)
          · refine wa_iload_n (i := 2) rfl rfl ?_
            refine wa_iload_n (i := 3) rfl rfl ?_
            refine wa_bipush (v := 16) (by decide) ?_
            refine wa_icmp_lt o_X3_sign_107 (by decide) (fun h19 => ?_) (fun h19 => ?_)
            · refine wa_iconst (v := 1) (by decide) ?_
              refine wa_iadd ?_
              refine wa_top (fun v20 hv20 => ?_)
              have tv20 := i_addT hv20
              clear hv20
              refine wa_ireturn rfl rfl ?_
              exact ⟨_, rfl, Fs1, (khi3_0), (khi3_1), trivial⟩
            · refine wa_iconst (v := 2) (by decide) ?_
              refine wa_goto o_X3_sign_108 (by decide) ?_
              refine wa_iadd ?_
              refine wa_top (fun v21 hv21 => ?_)
              have tv21 := i_addT hv21
              clear hv21
              refine wa_ireturn rfl rfl ?_
              exact ⟨_, rfl, Fs1, (khi3_0), (khi3_1), trivial⟩
          · refine wa_iload_n (i := 1) rfl rfl ?_
            refine wa_sipush (v := 2000) (by decide) ?_
            refine wa_icmp_gt o_X3_sign_96 (by decide) (fun h22 => ?_) (fun h22 => ?_)
            · refine wa_iload_n (i := 2) rfl rfl ?_
              refine wa_iload_n (i := 3) rfl rfl ?_
              refine wa_bipush (v := 16) (by decide) ?_
              refine wa_icmp_lt o_X3_sign_107 (by decide) (fun h23 => ?_) (fun h23 => ?_)
              · refine wa_iconst (v := 1) (by decide) ?_
                refine wa_iadd ?_
                refine wa_top (fun v24 hv24 => ?_)
                have tv24 := i_addT hv24
                clear hv24
                refine wa_ireturn rfl rfl ?_
                exact ⟨_, rfl, Fs1, (khi3_0), (khi3_1), trivial⟩
              · refine wa_iconst (v := 2) (by decide) ?_
                refine wa_goto o_X3_sign_108 (by decide) ?_
                refine wa_iadd ?_
                refine wa_top (fun v25 hv25 => ?_)
                have tv25 := i_addT hv25
                clear hv25
                refine wa_ireturn rfl rfl ?_
                exact ⟨_, rfl, Fs1, (khi3_0), (khi3_1), trivial⟩
            · refine wa_aload_n (i := 0) rfl rfl ?_
              refine wa_getr ck_3 fl_3_15 ly_18 rf_18_1 ?_
              refine wa_iload_n (i := 1) rfl rfl ?_
              refine wa_iload_n (i := 3) rfl rfl ?_
              refine wa_iast ly_20 (by ((try simp only [vp_in_iff, Int32.lt_iff_toInt_lt, Int32.le_iff_toInt_le, ← Int32.toInt_inj, Int32.reduceToInt, n_1, n_2, n_8, Int32.toNatClampNeg, Int64.lt_iff_toInt_lt, Int64.le_iff_toInt_le, ← Int64.toInt_inj, Int64.reduceToInt, Int32.toInt_toInt64, lg_cmp_ge, lg_cmp_le, lg_cmp_gt, lg_cmp_lt, lg_cmp_eq, Bool.false_eq_true, Bool.true_eq_false, reduceCtorEq, false_iff, true_iff, iff_true, iff_false, and_true, true_and, and_false, false_and, reduceIte, ite_true, ite_false, eq_self] at *)) <;> omega) (fun s26 hs26 => ?_)
              have Fs26 : Sm 20 21 σ s26 := by rw [hs26]; exact Sm.si Fs1 _ _ (by decide) (by decide)
              refine wa_iload_n (i := 2) rfl rfl ?_
              refine wa_iload_n (i := 3) rfl rfl ?_
              refine wa_bipush (v := 16) (by decide) ?_
              refine wa_icmp_lt o_X3_sign_107 (by decide) (fun h27 => ?_) (fun h27 => ?_)
              · refine wa_iconst (v := 1) (by decide) ?_
                refine wa_iadd ?_
                refine wa_top (fun v28 hv28 => ?_)
                have tv28 := i_addT hv28
                clear hv28
                refine wa_ireturn rfl rfl ?_
                exact ⟨_, rfl, Fs26, ((nx_gr_si hs26).trans (khi3_0)), ((nxq_gi_si hs26 (by decide)).trans (khi3_1)), trivial⟩
              · refine wa_iconst (v := 2) (by decide) ?_
                refine wa_goto o_X3_sign_108 (by decide) ?_
                refine wa_iadd ?_
                refine wa_top (fun v29 hv29 => ?_)
                have tv29 := i_addT hv29
                clear hv29
                refine wa_ireturn rfl rfl ?_
                exact ⟨_, rfl, Fs26, ((nx_gr_si hs26).trans (khi3_0)), ((nxq_gi_si hs26 (by decide)).trans (khi3_1)), trivial⟩
        · refine wa_iload rfl ?_
          refine wa_bipush (v := 12) (by decide) ?_
          refine wa_icmp_lt o_X3_sign_40 (by decide) (fun h30 => ?_) (fun h30 => ?_)
          · refine wa_iconst (v := 1) (by decide) ?_
            refine wa_goto o_X3_sign_45 (by decide) ?_
            refine wa_istoreD (lv' := [(5, .int (bI true)), (0, .ref 18), (1, .int a0), (2, .int a1), (3, .int l3), (4, .int l4)]) (by decide) rfl ?_
            refine wa_iload rfl ?_
            refine wa_if_eq o_X3_sign_72 (by decide) (fun h31 => ?_) (fun h31 => ?_)
            · replace h31 := bI_f (b := true) (rfl) h31
              refine wa_iinc (v := (-1)) (lv' := fun y32 => [(4, .int y32), (5, .int (bI true)), (0, .ref 18), (1, .int a0), (2, .int a1), (3, .int l3)]) (by decide) rfl (by decide) (fun _ => rfl) (fun y32 hy32 => ?_)
              have ty32 := i_addT hy32.symm
              clear hy32
              refine wa_goto o_X3_sign_6 (by decide) ?_
              refine wa_pick [2, 3, 4, 5, 0] rfl ?_
              exact ih2 _ (by ((try simp only [vp_in_iff, Int32.lt_iff_toInt_lt, Int32.le_iff_toInt_le, ← Int32.toInt_inj, Int32.reduceToInt, n_1, n_2, n_8, Int32.toNatClampNeg, Int64.lt_iff_toInt_lt, Int64.le_iff_toInt_le, ← Int64.toInt_inj, Int64.reduceToInt, Int32.toInt_toInt64, lg_cmp_ge, lg_cmp_le, lg_cmp_gt, lg_cmp_lt, lg_cmp_eq, Bool.false_eq_true, Bool.true_eq_false, reduceCtorEq, false_iff, true_iff, iff_true, iff_false, and_true, true_and, and_false, false_and, reduceIte, ite_true, ite_false, eq_self] at *)) <;> omega) _ _ _ ⟨Fs1, (khi3_0), (khi3_1), (by ((try simp only [vp_in_iff, Int32.lt_iff_toInt_lt, Int32.le_iff_toInt_le, ← Int32.toInt_inj, Int32.reduceToInt, n_1, n_2, n_8, Int32.toNatClampNeg, Int64.lt_iff_toInt_lt, Int64.le_iff_toInt_le, ← Int64.toInt_inj, Int64.reduceToInt, Int32.toInt_toInt64, lg_cmp_ge, lg_cmp_le, lg_cmp_gt, lg_cmp_lt, lg_cmp_eq, Bool.false_eq_true, Bool.true_eq_false, reduceCtorEq, false_iff, true_iff, iff_true, iff_false, and_true, true_and, and_false, false_and, reduceIte, ite_true, ite_false, eq_self] at *)) <;> omega), trivial⟩ rfl
            · replace h31 := bI_t (b := true) (rfl) h31
              refine wa_aload_n (i := 0) rfl rfl ?_
              refine wa_iload_n (i := 2) rfl rfl ?_
              refine wa_Vi (d9 := d - 1) [.int _] [] (sp_X3_byteAt G (d := d - 1) (by omega) s1 _ (by rw [khi3_0]; first | assumption | exact Or.inl rfl | exact Or.inr rfl | (((try simp only [vp_in_iff, Int32.lt_iff_toInt_lt, Int32.le_iff_toInt_le, ← Int32.toInt_inj, Int32.reduceToInt, n_1, n_2, n_8, Int32.toNatClampNeg, Int64.lt_iff_toInt_lt, Int64.le_iff_toInt_le, ← Int64.toInt_inj, Int64.reduceToInt, Int32.toInt_toInt64, lg_cmp_ge, lg_cmp_le, lg_cmp_gt, lg_cmp_lt, lg_cmp_eq, Bool.false_eq_true, Bool.true_eq_false, reduceCtorEq, false_iff, true_iff, iff_true, iff_false, and_true, true_and, and_false, false_and, reduceIte, ite_true, ite_false, eq_self] at *)) <;> omega))) (rfl) rfl rfl (zr (by omega)) mk_X3_byteAt ly_18 ml_3_63 (Nat.le_of_ble_eq_true rfl) (fun x34 s33 hs33 => ?_)
              obtain ⟨zs33, -⟩ := pI hs33
              subst zs33
              refine wa_ldcT kq_17 km_17 rfl rfl ?_
              refine wa_iload rfl ?_
              refine wa_Ti (d9 := d - 1) kq_17 [.int _] [.int x34] (sp_J0_charAt_5068e G (d := d - 1) (by omega) s1 kq_17 km_17 l4 (by ((try simp only [vp_in_iff, Int32.lt_iff_toInt_lt, Int32.le_iff_toInt_le, ← Int32.toInt_inj, Int32.reduceToInt, n_1, n_2, n_8, Int32.toNatClampNeg, Int64.lt_iff_toInt_lt, Int64.le_iff_toInt_le, ← Int64.toInt_inj, Int64.reduceToInt, Int32.toInt_toInt64, lg_cmp_ge, lg_cmp_le, lg_cmp_gt, lg_cmp_lt, lg_cmp_eq, Bool.false_eq_true, Bool.true_eq_false, reduceCtorEq, false_iff, true_iff, iff_true, iff_false, and_true, true_and, and_false, false_and, reduceIte, ite_true, ite_false, eq_self] at *)) <;> omega) (show (l4).toInt < 17 from by ((try simp only [vp_in_iff, Int32.lt_iff_toInt_lt, Int32.le_iff_toInt_le, ← Int32.toInt_inj, Int32.reduceToInt, n_1, n_2, n_8, Int32.toNatClampNeg, Int64.lt_iff_toInt_lt, Int64.le_iff_toInt_le, ← Int64.toInt_inj, Int64.reduceToInt, Int32.toInt_toInt64, lg_cmp_ge, lg_cmp_le, lg_cmp_gt, lg_cmp_lt, lg_cmp_eq, Bool.false_eq_true, Bool.true_eq_false, reduceCtorEq, false_iff, true_iff, iff_true, iff_false, and_true, true_and, and_false, false_and, reduceIte, ite_true, ite_false, eq_self] at *)) <;> omega)) rfl rfl rfl (zr (by omega)) mk_J0_charAt_5068e km_17 ml_3_44 (Nat.le_of_ble_eq_true rfl) (fun x35 s36 hs36 => ?_)
              obtain ⟨zs36, cx35, -⟩ := pI hs36
              subst zs36
              refine wa_icmp_ne o_X3_sign_72 (by decide) (fun h37 => ?_) (fun h37 => ?_)
              · refine wa_iinc (v := (-1)) (lv' := fun y38 => [(4, .int y38), (5, .int (bI true)), (0, .ref 18), (1, .int a0), (2, .int a1), (3, .int l3)]) (by decide) rfl (by decide) (fun _ => rfl) (fun y38 hy38 => ?_)
                have ty38 := i_addT hy38.symm
                clear hy38
                refine wa_goto o_X3_sign_6 (by decide) ?_
                refine wa_pick [2, 3, 4, 5, 0] rfl ?_
                exact ih2 _ (by ((try simp only [vp_in_iff, Int32.lt_iff_toInt_lt, Int32.le_iff_toInt_le, ← Int32.toInt_inj, Int32.reduceToInt, n_1, n_2, n_8, Int32.toNatClampNeg, Int64.lt_iff_toInt_lt, Int64.le_iff_toInt_le, ← Int64.toInt_inj, Int64.reduceToInt, Int32.toInt_toInt64, lg_cmp_ge, lg_cmp_le, lg_cmp_gt, lg_cmp_lt, lg_cmp_eq, Bool.false_eq_true, Bool.true_eq_false, reduceCtorEq, false_iff, true_iff, iff_true, iff_false, and_true, true_and, and_false, false_and, reduceIte, ite_true, ite_false, eq_self] at *)) <;> omega) _ _ _ ⟨Fs1, (khi3_0), (khi3_1), (by ((try simp only [vp_in_iff, Int32.lt_iff_toInt_lt, Int32.le_iff_toInt_le, ← Int32.toInt_inj, Int32.reduceToInt, n_1, n_2, n_8, Int32.toNatClampNeg, Int64.lt_iff_toInt_lt, Int64.le_iff_toInt_le, ← Int64.toInt_inj, Int64.reduceToInt, Int32.toInt_toInt64, lg_cmp_ge, lg_cmp_le, lg_cmp_gt, lg_cmp_lt, lg_cmp_eq, Bool.false_eq_true, Bool.true_eq_false, reduceCtorEq, false_iff, true_iff, iff_true, iff_false, and_true, true_and, and_false, false_and, reduceIte, ite_true, ite_false, eq_self] at *)) <;> omega), trivial⟩ rfl
              · refine wa_iconst (v := 4) (by decide) ?_
                refine wa_iload rfl ?_
                refine wa_iadd ?_
                refine wa_top (fun v39 hv39 => ?_)
                have tv39 := i_addT hv39
                clear hv39
                refine wa_istore_nD (lv' := [(3, .int v39), (5, .int (bI true)), (0, .ref 18), (1, .int a0), (2, .int a1), (4, .int l4)]) (i := 3) rfl (by decide) rfl ?_
                refine wa_iinc (v := (-1)) (lv' := fun y40 => [(4, .int y40), (3, .int v39), (5, .int (bI true)), (0, .ref 18), (1, .int a0), (2, .int a1)]) (by decide) rfl (by decide) (fun _ => rfl) (fun y40 hy40 => ?_)
                have ty40 := i_addT hy40.symm
                clear hy40
                refine wa_goto o_X3_sign_6 (by decide) ?_
                refine wa_pick [3, 4, 5, 1, 0] rfl ?_
                exact ih2 _ (by ((try simp only [vp_in_iff, Int32.lt_iff_toInt_lt, Int32.le_iff_toInt_le, ← Int32.toInt_inj, Int32.reduceToInt, n_1, n_2, n_8, Int32.toNatClampNeg, Int64.lt_iff_toInt_lt, Int64.le_iff_toInt_le, ← Int64.toInt_inj, Int64.reduceToInt, Int32.toInt_toInt64, lg_cmp_ge, lg_cmp_le, lg_cmp_gt, lg_cmp_lt, lg_cmp_eq, Bool.false_eq_true, Bool.true_eq_false, reduceCtorEq, false_iff, true_iff, iff_true, iff_false, and_true, true_and, and_false, false_and, reduceIte, ite_true, ite_false, eq_self] at *)) <;> omega) _ _ _ ⟨Fs1, (khi3_0), (khi3_1), (by ((try simp only [vp_in_iff, Int32.lt_iff_toInt_lt, Int32.le_iff_toInt_le, ← Int32.toInt_inj, Int32.reduceToInt, n_1, n_2, n_8, Int32.toNatClampNeg, Int64.lt_iff_toInt_lt, Int64.le_iff_toInt_le, ← Int64.toInt_inj, Int64.reduceToInt, Int32.toInt_toInt64, lg_cmp_ge, lg_cmp_le, lg_cmp_gt, lg_cmp_lt, lg_cmp_eq, Bool.false_eq_true, Bool.true_eq_false, reduceCtorEq, false_iff, true_iff, iff_true, iff_false, and_true, true_and, and_false, false_and, reduceIte, ite_true, ite_false, eq_self] at *)) <;> omega), trivial⟩ rfl
          · refine wa_aload_n (i := 0) rfl rfl ?_
            refine wa_iload_n (i := 2) rfl rfl ?_
            refine wa_iconst (v := 1) (by decide) ?_
            refine wa_iadd ?_
            refine wa_top (fun v41 hv41 => ?_)
            have tv41 := i_addT hv41
            clear hv41
            refine wa_Vi (d9 := d - 1) [.int _] [] (sp_X3_byteAt G (d := d - 1) (by omega) s1 _ (by rw [khi3_0]; first | assumption | exact Or.inl rfl | exact Or.inr rfl | (((try simp only [vp_in_iff, Int32.lt_iff_toInt_lt, Int32.le_iff_toInt_le, ← Int32.toInt_inj, Int32.reduceToInt, n_1, n_2, n_8, Int32.toNatClampNeg, Int64.lt_iff_toInt_lt, Int64.le_iff_toInt_le, ← Int64.toInt_inj, Int64.reduceToInt, Int32.toInt_toInt64, lg_cmp_ge, lg_cmp_le, lg_cmp_gt, lg_cmp_lt, lg_cmp_eq, Bool.false_eq_true, Bool.true_eq_false, reduceCtorEq, false_iff, true_iff, iff_true, iff_false, and_true, true_and, and_false, false_and, reduceIte, ite_true, ite_false, eq_self] at *)) <;> omega))) (rfl) rfl rfl (zr (by omega)) mk_X3_byteAt ly_18 ml_3_63 (Nat.le_of_ble_eq_true rfl) (fun x43 s42 hs42 => ?_)
            obtain ⟨zs42, -⟩ := pI hs42
            subst zs42
            refine wa_ldcT kq_16 km_16 rfl rfl ?_
            refine wa_iload rfl ?_
            refine wa_Ti (d9 := d - 1) kq_16 [.int _] [.int x43] (sp_J0_charAt_5068e G (d := d - 1) (by omega) s1 kq_16 km_16 l4 (by ((try simp only [vp_in_iff, Int32.lt_iff_toInt_lt, Int32.le_iff_toInt_le, ← Int32.toInt_inj, Int32.reduceToInt, n_1, n_2, n_8, Int32.toNatClampNeg, Int64.lt_iff_toInt_lt, Int64.le_iff_toInt_le, ← Int64.toInt_inj, Int64.reduceToInt, Int32.toInt_toInt64, lg_cmp_ge, lg_cmp_le, lg_cmp_gt, lg_cmp_lt, lg_cmp_eq, Bool.false_eq_true, Bool.true_eq_false, reduceCtorEq, false_iff, true_iff, iff_true, iff_false, and_true, true_and, and_false, false_and, reduceIte, ite_true, ite_false, eq_self] at *)) <;> omega) (show (l4).toInt < 17 from by ((try simp only [vp_in_iff, Int32.lt_iff_toInt_lt, Int32.le_iff_toInt_le, ← Int32.toInt_inj, Int32.reduceToInt, n_1, n_2, n_8, Int32.toNatClampNeg, Int64.lt_iff_toInt_lt, Int64.le_iff_toInt_le, ← Int64.toInt_inj, Int64.reduceToInt, Int32.toInt_toInt64, lg_cmp_ge, lg_cmp_le, lg_cmp_gt, lg_cmp_lt, lg_cmp_eq, Bool.false_eq_true, Bool.true_eq_false, reduceCtorEq, false_iff, true_iff, iff_true, iff_false, and_true, true_and, and_false, false_and, reduceIte, ite_true, ite_false, eq_self] at *)) <;> omega)) rfl rfl rfl (zr (by omega)) mk_J0_charAt_5068e km_16 ml_3_44 (Nat.le_of_ble_eq_true rfl) (fun x44 s45 hs45 => ?_)
            obtain ⟨zs45, cx44, -⟩ := pI hs45
            subst zs45
            refine wa_icmp_ne o_X3_sign_44 (by decide) (fun h46 => ?_) (fun h46 => ?_)
            · refine wa_iconst (v := 0) (by decide) ?_
              refine wa_istoreD (lv' := [(5, .int (bI false)), (0, .ref 18), (1, .int a0), (2, .int a1), (3, .int l3), (4, .int l4)]) (by decide) rfl ?_
              refine wa_iload rfl ?_
              refine wa_if_eq o_X3_sign_72 (by decide) (fun h47 => ?_) (fun h47 => ?_)
              · replace h47 := bI_f (b := false) (rfl) h47
                refine wa_iinc (v := (-1)) (lv' := fun y48 => [(4, .int y48), (5, .int (bI false)), (0, .ref 18), (1, .int a0), (2, .int a1), (3, .int l3)]) (by decide) rfl (by decide) (fun _ => rfl) (fun y48 hy48 => ?_)
                have ty48 := i_addT hy48.symm
                clear hy48
                refine wa_goto o_X3_sign_6 (by decide) ?_
                refine wa_pick [2, 3, 4, 5, 0] rfl ?_
                exact ih2 _ (by ((try simp only [vp_in_iff, Int32.lt_iff_toInt_lt, Int32.le_iff_toInt_le, ← Int32.toInt_inj, Int32.reduceToInt, n_1, n_2, n_8, Int32.toNatClampNeg, Int64.lt_iff_toInt_lt, Int64.le_iff_toInt_le, ← Int64.toInt_inj, Int64.reduceToInt, Int32.toInt_toInt64, lg_cmp_ge, lg_cmp_le, lg_cmp_gt, lg_cmp_lt, lg_cmp_eq, Bool.false_eq_true, Bool.true_eq_false, reduceCtorEq, false_iff, true_iff, iff_true, iff_false, and_true, true_and, and_false, false_and, reduceIte, ite_true, ite_false, eq_self] at *)) <;> omega) _ _ _ ⟨Fs1, (khi3_0), (khi3_1), (by ((try simp only [vp_in_iff, Int32.lt_iff_toInt_lt, Int32.le_iff_toInt_le, ← Int32.toInt_inj, Int32.reduceToInt, n_1, n_2, n_8, Int32.toNatClampNeg, Int64.lt_iff_toInt_lt, Int64.le_iff_toInt_le, ← Int64.toInt_inj, Int64.reduceToInt, Int32.toInt_toInt64, lg_cmp_ge, lg_cmp_le, lg_cmp_gt, lg_cmp_lt, lg_cmp_eq, Bool.false_eq_true, Bool.true_eq_false, reduceCtorEq, false_iff, true_iff, iff_true, iff_false, and_true, true_and, and_false, false_and, reduceIte, ite_true, ite_false, eq_self] at *)) <;> omega), trivial⟩ rfl
              · replace h47 := bI_t (b := false) (rfl) h47
                refine wa_aload_n (i := 0) rfl rfl ?_
                refine wa_iload_n (i := 2) rfl rfl ?_
                refine wa_Vi (d9 := d - 1) [.int _] [] (sp_X3_byteAt G (d := d - 1) (by omega) s1 _ (by rw [khi3_0]; first | assumption | exact Or.inl rfl | exact Or.inr rfl | (((try simp only [vp_in_iff, Int32.lt_iff_toInt_lt, Int32.le_iff_toInt_le, ← Int32.toInt_inj, Int32.reduceToInt, n_1, n_2, n_8, Int32.toNatClampNeg, Int64.lt_iff_toInt_lt, Int64.le_iff_toInt_le, ← Int64.toInt_inj, Int64.reduceToInt, Int32.toInt_toInt64, lg_cmp_ge, lg_cmp_le, lg_cmp_gt, lg_cmp_lt, lg_cmp_eq, Bool.false_eq_true, Bool.true_eq_false, reduceCtorEq, false_iff, true_iff, iff_true, iff_false, and_true, true_and, and_false, false_and, reduceIte, ite_true, ite_false, eq_self] at *)) <;> omega))) (rfl) rfl rfl (zr (by omega)) mk_X3_byteAt ly_18 ml_3_63 (Nat.le_of_ble_eq_true rfl) (fun x50 s49 hs49 => ?_)
                obtain ⟨zs49, -⟩ := pI hs49
                subst zs49
                refine wa_ldcT kq_17 km_17 rfl rfl ?_
                refine wa_iload rfl ?_
                refine wa_Ti (d9 := d - 1) kq_17 [.int _] [.int x50] (sp_J0_charAt_5068e G (d := d - 1) (by omega) s1 kq_17 km_17 l4 (by ((try simp only [vp_in_iff, Int32.lt_iff_toInt_lt, Int32.le_iff_toInt_le, ← Int32.toInt_inj, Int32.reduceToInt, n_1, n_2, n_8, Int32.toNatClampNeg, Int64.lt_iff_toInt_lt, Int64.le_iff_toInt_le, ← Int64.toInt_inj, Int64.reduceToInt, Int32.toInt_toInt64, lg_cmp_ge, lg_cmp_le, lg_cmp_gt, lg_cmp_lt, lg_cmp_eq, Bool.false_eq_true, Bool.true_eq_false, reduceCtorEq, false_iff, true_iff, iff_true, iff_false, and_true, true_and, and_false, false_and, reduceIte, ite_true, ite_false, eq_self] at *)) <;> omega) (show (l4).toInt < 17 from by ((try simp only [vp_in_iff, Int32.lt_iff_toInt_lt, Int32.le_iff_toInt_le, ← Int32.toInt_inj, Int32.reduceToInt, n_1, n_2, n_8, Int32.toNatClampNeg, Int64.lt_iff_toInt_lt, Int64.le_iff_toInt_le, ← Int64.toInt_inj, Int64.reduceToInt, Int32.toInt_toInt64, lg_cmp_ge, lg_cmp_le, lg_cmp_gt, lg_cmp_lt, lg_cmp_eq, Bool.false_eq_true, Bool.true_eq_false, reduceCtorEq, false_iff, true_iff, iff_true, iff_false, and_true, true_and, and_false, false_and, reduceIte, ite_true, ite_false, eq_self] at *)) <;> omega)) rfl rfl rfl (zr (by omega)) mk_J0_charAt_5068e km_17 ml_3_44 (Nat.le_of_ble_eq_true rfl) (fun x51 s52 hs52 => ?_)
                obtain ⟨zs52, cx51, -⟩ := pI hs52
                subst zs52
                refine wa_icmp_ne o_X3_sign_72 (by decide) (fun h53 => ?_) (fun h53 => ?_)
                · refine wa_iinc (v := (-1)) (lv' := fun y54 => [(4, .int y54), (5, .int (bI false)), (0, .ref 18), (1, .int a0), (2, .int a1), (3, .int l3)]) (by decide) rfl (by decide) (fun _ => rfl) (fun y54 hy54 => ?_)
                  have ty54 := i_addT hy54.symm
                  clear hy54
                  refine wa_goto o_X3_sign_6 (by decide) ?_
                  refine wa_pick [2, 3, 4, 5, 0] rfl ?_
                  exact ih2 _ (by ((try simp only [vp_in_iff, Int32.lt_iff_toInt_lt, Int32.le_iff_toInt_le, ← Int32.toInt_inj, Int32.reduceToInt, n_1, n_2, n_8, Int32.toNatClampNeg, Int64.lt_iff_toInt_lt, Int64.le_iff_toInt_le, ← Int64.toInt_inj, Int64.reduceToInt, Int32.toInt_toInt64, lg_cmp_ge, lg_cmp_le, lg_cmp_gt, lg_cmp_lt, lg_cmp_eq, Bool.false_eq_true, Bool.true_eq_false, reduceCtorEq, false_iff, true_iff, iff_true, iff_false, and_true, true_and, and_false, false_and, reduceIte, ite_true, ite_false, eq_self] at *)) <;> omega) _ _ _ ⟨Fs1, (khi3_0), (khi3_1), (by ((try simp only [vp_in_iff, Int32.lt_iff_toInt_lt, Int32.le_iff_toInt_le, ← Int32.toInt_inj, Int32.reduceToInt, n_1, n_2, n_8, Int32.toNatClampNeg, Int64.lt_iff_toInt_lt, Int64.le_iff_toInt_le, ← Int64.toInt_inj, Int64.reduceToInt, Int32.toInt_toInt64, lg_cmp_ge, lg_cmp_le, lg_cmp_gt, lg_cmp_lt, lg_cmp_eq, Bool.false_eq_true, Bool.true_eq_false, reduceCtorEq, false_iff, true_iff, iff_true, iff_false, and_true, true_and, and_false, false_and, reduceIte, ite_true, ite_false, eq_self] at *)) <;> omega), trivial⟩ rfl
                · refine wa_iconst (v := 4) (by decide) ?_
                  refine wa_iload rfl ?_
                  refine wa_iadd ?_
                  refine wa_top (fun v55 hv55 => ?_)
                  have tv55 := i_addT hv55
                  clear hv55
                  refine wa_istore_nD (lv' := [(3, .int v55), (5, .int (bI false)), (0, .ref 18), (1, .int a0), (2, .int a1), (4, .int l4)]) (i := 3) rfl (by decide) rfl ?_
                  refine wa_iinc (v := (-1)) (lv' := fun y56 => [(4, .int y56), (3, .int v55), (5, .int (bI false)), (0, .ref 18), (1, .int a0), (2, .int a1)]) (by decide) rfl (by decide) (fun _ => rfl) (fun y56 hy56 => ?_)
                  have ty56 := i_addT hy56.symm
                  clear hy56
                  refine wa_goto o_X3_sign_6 (by decide) ?_
                  refine wa_pick [3, 4, 5, 1, 0] rfl ?_
                  exact ih2 _ (by ((try simp only [vp_in_iff, Int32.lt_iff_toInt_lt, Int32.le_iff_toInt_le, ← Int32.toInt_inj, Int32.reduceToInt, n_1, n_2, n_8, Int32.toNatClampNeg, Int64.lt_iff_toInt_lt, Int64.le_iff_toInt_le, ← Int64.toInt_inj, Int64.reduceToInt, Int32.toInt_toInt64, lg_cmp_ge, lg_cmp_le, lg_cmp_gt, lg_cmp_lt, lg_cmp_eq, Bool.false_eq_true, Bool.true_eq_false, reduceCtorEq, false_iff, true_iff, iff_true, iff_false, and_true, true_and, and_false, false_and, reduceIte, ite_true, ite_false, eq_self] at *)) <;> omega) _ _ _ ⟨Fs1, (khi3_0), (khi3_1), (by ((try simp only [vp_in_iff, Int32.lt_iff_toInt_lt, Int32.le_iff_toInt_le, ← Int32.toInt_inj, Int32.reduceToInt, n_1, n_2, n_8, Int32.toNatClampNeg, Int64.lt_iff_toInt_lt, Int64.le_iff_toInt_le, ← Int64.toInt_inj, Int64.reduceToInt, Int32.toInt_toInt64, lg_cmp_ge, lg_cmp_le, lg_cmp_gt, lg_cmp_lt, lg_cmp_eq, Bool.false_eq_true, Bool.true_eq_false, reduceCtorEq, false_iff, true_iff, iff_true, iff_false, and_true, true_and, and_false, false_and, reduceIte, ite_true, ite_false, eq_self] at *)) <;> omega), trivial⟩ rfl
            · refine wa_iconst (v := 1) (by decide) ?_
              refine wa_goto o_X3_sign_45 (by decide) ?_
              refine wa_istoreD (lv' := [(5, .int (bI true)), (0, .ref 18), (1, .int a0), (2, .int a1), (3, .int l3), (4, .int l4)]) (by decide) rfl ?_
              refine wa_iload rfl ?_
              refine wa_if_eq o_X3_sign_72 (by decide) (fun h57 => ?_) (fun h57 => ?_)
              · replace h57 := bI_f (b := true) (rfl) h57
                refine wa_iinc (v := (-1)) (lv' := fun y58 => [(4, .int y58), (5, .int (bI true)), (0, .ref 18), (1, .int a0), (2, .int a1), (3, .int l3)]) (by decide) rfl (by decide) (fun _ => rfl) (fun y58 hy58 => ?_)
                have ty58 := i_addT hy58.symm
                clear hy58
                refine wa_goto o_X3_sign_6 (by decide) ?_
                refine wa_pick [2, 3, 4, 5, 0] rfl ?_
                exact ih2 _ (by ((try simp only [vp_in_iff, Int32.lt_iff_toInt_lt, Int32.le_iff_toInt_le, ← Int32.toInt_inj, Int32.reduceToInt, n_1, n_2, n_8, Int32.toNatClampNeg, Int64.lt_iff_toInt_lt, Int64.le_iff_toInt_le, ← Int64.toInt_inj, Int64.reduceToInt, Int32.toInt_toInt64, lg_cmp_ge, lg_cmp_le, lg_cmp_gt, lg_cmp_lt, lg_cmp_eq, Bool.false_eq_true, Bool.true_eq_false, reduceCtorEq, false_iff, true_iff, iff_true, iff_false, and_true, true_and, and_false, false_and, reduceIte, ite_true, ite_false, eq_self] at *)) <;> omega) _ _ _ ⟨Fs1, (khi3_0), (khi3_1), (by ((try simp only [vp_in_iff, Int32.lt_iff_toInt_lt, Int32.le_iff_toInt_le, ← Int32.toInt_inj, Int32.reduceToInt, n_1, n_2, n_8, Int32.toNatClampNeg, Int64.lt_iff_toInt_lt, Int64.le_iff_toInt_le, ← Int64.toInt_inj, Int64.reduceToInt, Int32.toInt_toInt64, lg_cmp_ge, lg_cmp_le, lg_cmp_gt, lg_cmp_lt, lg_cmp_eq, Bool.false_eq_true, Bool.true_eq_false, reduceCtorEq, false_iff, true_iff, iff_true, iff_false, and_true, true_and, and_false, false_and, reduceIte, ite_true, ite_false, eq_self] at *)) <;> omega), trivial⟩ rfl
              · replace h57 := bI_t (b := true) (rfl) h57
                refine wa_aload_n (i := 0) rfl rfl ?_
                refine wa_iload_n (i := 2) rfl rfl ?_
                refine wa_Vi (d9 := d - 1) [.int _] [] (sp_X3_byteAt G (d := d - 1) (by omega) s1 _ (by rw [khi3_0]; first | assumption | exact Or.inl rfl | exact Or.inr rfl | (((try simp only [vp_in_iff, Int32.lt_iff_toInt_lt, Int32.le_iff_toInt_le, ← Int32.toInt_inj, Int32.reduceToInt, n_1, n_2, n_8, Int32.toNatClampNeg, Int64.lt_iff_toInt_lt, Int64.le_iff_toInt_le, ← Int64.toInt_inj, Int64.reduceToInt, Int32.toInt_toInt64, lg_cmp_ge, lg_cmp_le, lg_cmp_gt, lg_cmp_lt, lg_cmp_eq, Bool.false_eq_true, Bool.true_eq_false, reduceCtorEq, false_iff, true_iff, iff_true, iff_false, and_true, true_and, and_false, false_and, reduceIte, ite_true, ite_false, eq_self] at *)) <;> omega))) (rfl) rfl rfl (zr (by omega)) mk_X3_byteAt ly_18 ml_3_63 (Nat.le_of_ble_eq_true rfl) (fun x60 s59 hs59 => ?_)
                obtain ⟨zs59, -⟩ := pI hs59
                subst zs59
                refine wa_ldcT kq_17 km_17 rfl rfl ?_
                refine wa_iload rfl ?_
                refine wa_Ti (d9 := d - 1) kq_17 [.int _] [.int x60] (sp_J0_charAt_5068e G (d := d - 1) (by omega) s1 kq_17 km_17 l4 (by ((try simp only [vp_in_iff, Int32.lt_iff_toInt_lt, Int32.le_iff_toInt_le, ← Int32.toInt_inj, Int32.reduceToInt, n_1, n_2, n_8, Int32.toNatClampNeg, Int64.lt_iff_toInt_lt, Int64.le_iff_toInt_le, ← Int64.toInt_inj, Int64.reduceToInt, Int32.toInt_toInt64, lg_cmp_ge, lg_cmp_le, lg_cmp_gt, lg_cmp_lt, lg_cmp_eq, Bool.false_eq_true, Bool.true_eq_false, reduceCtorEq, false_iff, true_iff, iff_true, iff_false, and_true, true_and, and_false, false_and, reduceIte, ite_true, ite_false, eq_self] at *)) <;> omega) (show (l4).toInt < 17 from by ((try simp only [vp_in_iff, Int32.lt_iff_toInt_lt, Int32.le_iff_toInt_le, ← Int32.toInt_inj, Int32.reduceToInt, n_1, n_2, n_8, Int32.toNatClampNeg, Int64.lt_iff_toInt_lt, Int64.le_iff_toInt_le, ← Int64.toInt_inj, Int64.reduceToInt, Int32.toInt_toInt64, lg_cmp_ge, lg_cmp_le, lg_cmp_gt, lg_cmp_lt, lg_cmp_eq, Bool.false_eq_true, Bool.true_eq_false, reduceCtorEq, false_iff, true_iff, iff_true, iff_false, and_true, true_and, and_false, false_and, reduceIte, ite_true, ite_false, eq_self] at *)) <;> omega)) rfl rfl rfl (zr (by omega)) mk_J0_charAt_5068e km_17 ml_3_44 (Nat.le_of_ble_eq_true rfl) (fun x61 s62 hs62 => ?_)
                obtain ⟨zs62, cx61, -⟩ := pI hs62
                subst zs62
                refine wa_icmp_ne o_X3_sign_72 (by decide) (fun h63 => ?_) (fun h63 => ?_)
                · refine wa_iinc (v := (-1)) (lv' := fun y64 => [(4, .int y64), (5, .int (bI true)), (0, .ref 18), (1, .int a0), (2, .int a1), (3, .int l3)]) (by decide) rfl (by decide) (fun _ => rfl) (fun y64 hy64 => ?_)
                  have ty64 := i_addT hy64.symm
                  clear hy64
                  refine wa_goto o_X3_sign_6 (by decide) ?_
                  refine wa_pick [2, 3, 4, 5, 0] rfl ?_
                  exact ih2 _ (by ((try simp only [vp_in_iff, Int32.lt_iff_toInt_lt, Int32.le_iff_toInt_le, ← Int32.toInt_inj, Int32.reduceToInt, n_1, n_2, n_8, Int32.toNatClampNeg, Int64.lt_iff_toInt_lt, Int64.le_iff_toInt_le, ← Int64.toInt_inj, Int64.reduceToInt, Int32.toInt_toInt64, lg_cmp_ge, lg_cmp_le, lg_cmp_gt, lg_cmp_lt, lg_cmp_eq, Bool.false_eq_true, Bool.true_eq_false, reduceCtorEq, false_iff, true_iff, iff_true, iff_false, and_true, true_and, and_false, false_and, reduceIte, ite_true, ite_false, eq_self] at *)) <;> omega) _ _ _ ⟨Fs1, (khi3_0), (khi3_1), (by ((try simp only [vp_in_iff, Int32.lt_iff_toInt_lt, Int32.le_iff_toInt_le, ← Int32.toInt_inj, Int32.reduceToInt, n_1, n_2, n_8, Int32.toNatClampNeg, Int64.lt_iff_toInt_lt, Int64.le_iff_toInt_le, ← Int64.toInt_inj, Int64.reduceToInt, Int32.toInt_toInt64, lg_cmp_ge, lg_cmp_le, lg_cmp_gt, lg_cmp_lt, lg_cmp_eq, Bool.false_eq_true, Bool.true_eq_false, reduceCtorEq, false_iff, true_iff, iff_true, iff_false, and_true, true_and, and_false, false_and, reduceIte, ite_true, ite_false, eq_self] at *)) <;> omega), trivial⟩ rfl
                · refine wa_iconst (v := 4) (by decide) ?_
                  refine wa_iload rfl ?_
                  refine wa_iadd ?_
                  refine wa_top (fun v65 hv65 => ?_)
                  have tv65 := i_addT hv65
                  clear hv65
                  refine wa_istore_nD (lv' := [(3, .int v65), (5, .int (bI true)), (0, .ref 18), (1, .int a0), (2, .int a1), (4, .int l4)]) (i := 3) rfl (by decide) rfl ?_
                  refine wa_iinc (v := (-1)) (lv' := fun y66 => [(4, .int y66), (3, .int v65), (5, .int (bI true)), (0, .ref 18), (1, .int a0), (2, .int a1)]) (by decide) rfl (by decide) (fun _ => rfl) (fun y66 hy66 => ?_)
                  have ty66 := i_addT hy66.symm
                  clear hy66
                  refine wa_goto o_X3_sign_6 (by decide) ?_
                  refine wa_pick [3, 4, 5, 1, 0] rfl ?_
                  exact ih2 _ (by ((try simp only [vp_in_iff, Int32.lt_iff_toInt_lt, Int32.le_iff_toInt_le, ← Int32.toInt_inj, Int32.reduceToInt, n_1, n_2, n_8, Int32.toNatClampNeg, Int64.lt_iff_toInt_lt, Int64.le_iff_toInt_le, ← Int64.toInt_inj, Int64.reduceToInt, Int32.toInt_toInt64, lg_cmp_ge, lg_cmp_le, lg_cmp_gt, lg_cmp_lt, lg_cmp_eq, Bool.false_eq_true, Bool.true_eq_false, reduceCtorEq, false_iff, true_iff, iff_true, iff_false, and_true, true_and, and_false, false_and, reduceIte, ite_true, ite_false, eq_self] at *)) <;> omega) _ _ _ ⟨Fs1, (khi3_0), (khi3_1), (by ((try simp only [vp_in_iff, Int32.lt_iff_toInt_lt, Int32.le_iff_toInt_le, ← Int32.toInt_inj, Int32.reduceToInt, n_1, n_2, n_8, Int32.toNatClampNeg, Int64.lt_iff_toInt_lt, Int64.le_iff_toInt_le, ← Int64.toInt_inj, Int64.reduceToInt, Int32.toInt_toInt64, lg_cmp_ge, lg_cmp_le, lg_cmp_gt, lg_cmp_lt, lg_cmp_eq, Bool.false_eq_true, Bool.true_eq_false, reduceCtorEq, false_iff, true_iff, iff_true, iff_false, and_true, true_and, and_false, false_and, reduceIte, ite_true, ite_false, eq_self] at *)) <;> omega), trivial⟩ rfl
  exact hi3 _ _ _ _ ⟨(Sm.rf 20 21 σ), (rfl), (rfl), (by ((try simp only [vp_in_iff, Int32.lt_iff_toInt_lt, Int32.le_iff_toInt_le, ← Int32.toInt_inj, Int32.reduceToInt, n_1, n_2, n_8, Int32.toNatClampNeg, Int64.lt_iff_toInt_lt, Int64.le_iff_toInt_le, ← Int64.toInt_inj, Int64.reduceToInt, Int32.toInt_toInt64, lg_cmp_ge, lg_cmp_le, lg_cmp_gt, lg_cmp_lt, lg_cmp_eq, Bool.false_eq_true, Bool.true_eq_false, reduceCtorEq, false_iff, true_iff, iff_true, iff_false, and_true, true_and, and_false, false_and, reduceIte, ite_true, ite_false, eq_self] at *)) <;> omega), trivial⟩ rfl
set_option maxHeartbeats 4000000 in
theorem sp_X4_begin (G : kG9) {d : Nat} (hd : 1 ≤ d) (σ : St) (a0 : Int32) : Ct G M_X4_begin d [.ref 25, .int a0] σ (fun r σ' => Fm [13, 25, 27] [] σ σ' ∧ True) := by
  refine wa_start (by decide) rfl (Nat.le_of_ble_eq_true rfl) (lv := [(0, .ref 25), (1, .int a0)]) rfl o_X4_begin_0 rfl ?_
  have ua0 := Int32.toInt_lt a0
  have wa0 := Int32.le_toInt a0
  refine wa_aload_n (i := 0) rfl rfl ?_
  refine wa_iload_n (i := 1) rfl rfl ?_
  refine wa_puti ck_4 fl_4_33 ly_25 (fun s1 hs1 => ?_)
  have Fs1 : Fm [13, 25, 27] [] σ s1 := by rw [hs1]; exact Fm.si (Fm.rf [13, 25, 27] [] σ) rfl
  refine wa_aload_n (i := 0) rfl rfl ?_
  refine wa_iconst (v := 0) (by decide) ?_
  refine wa_puti ck_4 fl_4_86 ly_25 (fun s2 hs2 => ?_)
  have Fs2 : Fm [13, 25, 27] [] σ s2 := by rw [hs2]; exact Fm.si Fs1 rfl
  refine wa_aload_n (i := 0) rfl rfl ?_
  refine wa_iconst (v := 0) (by decide) ?_
  refine wa_putz false (rfl) ck_4 fl_4_61 ly_25 (fun s3 hs3 => ?_)
  have Fs3 : Fm [13, 25, 27] [] σ s3 := by rw [hs3]; exact Fm.sb Fs2 rfl
  refine wa_aload_n (i := 0) rfl rfl ?_
  refine wa_iconst (v := 0) (by decide) ?_
  refine wa_putz false (rfl) ck_4 fl_4_89 ly_25 (fun s4 hs4 => ?_)
  have Fs4 : Fm [13, 25, 27] [] σ s4 := by rw [hs4]; exact Fm.sb Fs3 rfl
  refine wa_aload_n (i := 0) rfl rfl ?_
  refine wa_iconst (v := 0) (by decide) ?_
  refine wa_puti ck_4 fl_4_83 ly_25 (fun s5 hs5 => ?_)
  have Fs5 : Fm [13, 25, 27] [] σ s5 := by rw [hs5]; exact Fm.si Fs4 rfl
  refine wa_aload_n (i := 0) rfl rfl ?_
  refine wa_getr ck_4 fl_4_15 ly_25 rf_25_2 ?_
  refine wa_iconst (v := 0) (by decide) ?_
  refine wa_iconst (v := 0) (by decide) ?_
  refine wa_iast ly_27 (by ((try simp only [vp_in_iff, Int32.lt_iff_toInt_lt, Int32.le_iff_toInt_le, ← Int32.toInt_inj, Int32.reduceToInt, n_1, n_2, n_8, Int32.toNatClampNeg, Int64.lt_iff_toInt_lt, Int64.le_iff_toInt_le, ← Int64.toInt_inj, Int64.reduceToInt, Int32.toInt_toInt64, lg_cmp_ge, lg_cmp_le, lg_cmp_gt, lg_cmp_lt, lg_cmp_eq, Bool.false_eq_true, Bool.true_eq_false, reduceCtorEq, false_iff, true_iff, iff_true, iff_false, and_true, true_and, and_false, false_and, reduceIte, ite_true, ite_false, eq_self] at *)) <;> omega) (fun s6 hs6 => ?_)
  have Fs6 : Fm [13, 25, 27] [] σ s6 := by rw [hs6]; exact Fm.si Fs5 rfl
  refine wa_aload_n (i := 0) rfl rfl ?_
  refine wa_getr ck_4 fl_4_25 ly_25 rf_25_0 ?_
  refine wa_iload_n (i := 1) rfl rfl ?_
  refine wa_iconst (v := 4) (by decide) ?_
  refine wa_iconst (v := 0) (by decide) ?_
  refine wa_Vv (d9 := d - 1) [.int _, .int _, .int _] [] (sp_X2_setFact G (d := d - 1) (by omega) s6 _ _ _) (rfl) rfl rfl (zr (by omega)) mk_X2_setFact ly_7 ml_4_79 (Nat.le_of_ble_eq_true rfl) (fun s7 hs7 => ?_)
  obtain ⟨fs7, -⟩ := hs7
  have Fs7 : Fm [13, 25, 27] [] σ s7 := Fm.tr Fs6 (Fm.ofSm fs7 rfl)
  refine wa_return (st := []) rfl rfl ?_
  exact ⟨Fs7, trivial⟩
set_option maxHeartbeats 4000000 in
theorem sp_X4_isPlain (G : kG9) {d : Nat} (hd : 1 ≤ d) (σ : St) (a0 : Int32) : Ct G M_X4_isPlain d [.ref 25, .int a0] σ (fun r σ' => ∃ x : Bool, r = some (.int (bI x)) ∧ σ = σ' ∧ True) := by
  refine wa_start (by decide) rfl (Nat.le_of_ble_eq_true rfl) (lv := [(0, .ref 25), (1, .int a0)]) rfl o_X4_isPlain_0 rfl ?_
  have ua0 := Int32.toInt_lt a0
  have wa0 := Int32.le_toInt a0
  refine wa_iload_n (i := 1) rfl rfl ?_
  refine wa_bipush (v := 63) (by decide) ?_
  refine wa_iand ?_
  refine wa_top (fun v1 hv1 => ?_)
  have tv1 := i_andT hv1
  clear hv1
  refine wa_istore_nD (lv' := [(2, .int v1), (0, .ref 25), (1, .int a0)]) (i := 2) rfl (by decide) rfl ?_
  refine wa_iload_n (i := 2) rfl rfl ?_
  refine wa_bipush (v := 42) (by decide) ?_
  refine wa_icmp_ne o_X4_isPlain_33 (by decide) (fun h2 => ?_) (fun h2 => ?_)
  · refine wa_iload_n (i := 2) rfl rfl ?_
    refine wa_bipush (v := 27) (by decide) ?_
    refine wa_icmp_eq o_X4_isPlain_63 (by decide) (fun h3 => ?_) (fun h3 => ?_)
    · refine wa_iconst (v := 1) (by decide) ?_
      refine wa_goto o_X4_isPlain_68 (by decide) ?_
      refine wa_istore_nD (lv' := [(3, .int (bI true)), (2, .int v1), (0, .ref 25), (1, .int a0)]) (i := 3) rfl (by decide) rfl ?_
      refine wa_iload_n (i := 3) rfl rfl ?_
      refine wa_if_ne o_X4_isPlain_95 (by decide) (fun h4 => ?_) (fun h4 => ?_)
      · replace h4 := bI_t (b := true) (rfl) h4
        refine wa_iconst (v := 0) (by decide) ?_
        refine wa_zreturn false (rfl) rfl rfl ?_
        exact ⟨_, rfl, rfl, trivial⟩
      · replace h4 := bI_f (b := true) (rfl) h4
        refine wa_iload_n (i := 2) rfl rfl ?_
        refine wa_bipush (v := 19) (by decide) ?_
        refine wa_icmp_eq o_X4_isPlain_95 (by decide) (fun h5 => ?_) (fun h5 => ?_)
        · refine wa_iconst (v := 0) (by decide) ?_
          refine wa_zreturn false (rfl) rfl rfl ?_
          exact ⟨_, rfl, rfl, trivial⟩
        · refine wa_iload_n (i := 2) rfl rfl ?_
          refine wa_bipush (v := 20) (by decide) ?_
          refine wa_icmp_eq o_X4_isPlain_95 (by decide) (fun h6 => ?_) (fun h6 => ?_)
          · refine wa_iconst (v := 0) (by decide) ?_
            refine wa_zreturn false (rfl) rfl rfl ?_
            exact ⟨_, rfl, rfl, trivial⟩
          · refine wa_iload_n (i := 2) rfl rfl ?_
            refine wa_bipush (v := 18) (by decide) ?_
            refine wa_icmp_eq o_X4_isPlain_95 (by decide) (fun h7 => ?_) (fun h7 => ?_)
            · refine wa_iconst (v := 0) (by decide) ?_
              refine wa_zreturn false (rfl) rfl rfl ?_
              exact ⟨_, rfl, rfl, trivial⟩
            · refine wa_iconst (v := 1) (by decide) ?_
              refine wa_goto o_X4_isPlain_96 (by decide) ?_
              refine wa_zreturn true (rfl) rfl rfl ?_
              exact ⟨_, rfl, rfl, trivial⟩
    · refine wa_iload_n (i := 2) rfl rfl ?_
      refine wa_bipush (v := 24) (by decide) ?_
      refine wa_icmp_eq o_X4_isPlain_63 (by decide) (fun h8 => ?_) (fun h8 => ?_)
      · refine wa_iconst (v := 1) (by decide) ?_
        refine wa_goto o_X4_isPlain_68 (by decide) ?_
        refine wa_istore_nD (lv' := [(3, .int (bI true)), (2, .int v1), (0, .ref 25), (1, .int a0)]) (i := 3) rfl (by decide) rfl ?_
        refine wa_iload_n (i := 3) rfl rfl ?_
        refine wa_if_ne o_X4_isPlain_95 (by decide) (fun h9 => ?_) (fun h9 => ?_)
        · replace h9 := bI_t (b := true) (rfl) h9
          refine wa_iconst (v := 0) (by decide) ?_
          refine wa_zreturn false (rfl) rfl rfl ?_
          exact ⟨_, rfl, rfl, trivial⟩
        · replace h9 := bI_f (b := true) (rfl) h9
          refine wa_iload_n (i := 2) rfl rfl ?_
          refine wa_bipush (v := 19) (by decide) ?_
          refine wa_icmp_eq o_X4_isPlain_95 (by decide) (fun h10 => ?_) (fun h10 => ?_)
          · refine wa_iconst (v := 0) (by decide) ?_
            refine wa_zreturn false (rfl) rfl rfl ?_
            exact ⟨_, rfl, rfl, trivial⟩
          · refine wa_iload_n (i := 2) rfl rfl ?_
            refine wa_bipush (v := 20) (by decide) ?_
            refine wa_icmp_eq o_X4_isPlain_95 (by decide) (fun h11 => ?_) (fun h11 => ?_)
            · refine wa_iconst (v := 0) (by decide) ?_
              refine wa_zreturn false (rfl) rfl rfl ?_
              exact ⟨_, rfl, rfl, trivial⟩
            · refine wa_iload_n (i := 2) rfl rfl ?_
              refine wa_bipush (v := 18) (by decide) ?_
              refine wa_icmp_eq o_X4_isPlain_95 (by decide) (fun h12 => ?_) (fun h12 => ?_)
              · refine wa_iconst (v := 0) (by decide) ?_
                refine wa_zreturn false (rfl) rfl rfl ?_
                exact ⟨_, rfl, rfl, trivial⟩
              · refine wa_iconst (v := 1) (by decide) ?_
                refine wa_goto o_X4_isPlain_96 (by decide) ?_
                refine wa_zreturn true (rfl) rfl rfl ?_
                exact ⟨_, rfl, rfl, trivial⟩
      · refine wa_iload_n (i := 2) rfl rfl ?_
        refine wa_bipush (v := 25) (by decide) ?_
        refine wa_icmp_eq o_X4_isPlain_63 (by decide) (fun h13 => ?_) (fun h13 => ?_)
        · refine wa_iconst (v := 1) (by decide) ?_
          refine wa_goto o_X4_isPlain_68 (by decide) ?_
          refine wa_istore_nD (lv' := [(3, .int (bI true)), (2, .int v1), (0, .ref 25), (1, .int a0)]) (i := 3) rfl (by decide) rfl ?_
          refine wa_iload_n (i := 3) rfl rfl ?_
          refine wa_if_ne o_X4_isPlain_95 (by decide) (fun h14 => ?_) (fun h14 => ?_)
          · replace h14 := bI_t (b := true) (rfl) h14
            refine wa_iconst (v := 0) (by decide) ?_
            refine wa_zreturn false (rfl) rfl rfl ?_
            exact ⟨_, rfl, rfl, trivial⟩
          · replace h14 := bI_f (b := true) (rfl) h14
            refine wa_iload_n (i := 2) rfl rfl ?_
            refine wa_bipush (v := 19) (by decide) ?_
            refine wa_icmp_eq o_X4_isPlain_95 (by decide) (fun h15 => ?_) (fun h15 => ?_)
            · refine wa_iconst (v := 0) (by decide) ?_
              refine wa_zreturn false (rfl) rfl rfl ?_
              exact ⟨_, rfl, rfl, trivial⟩
            · refine wa_iload_n (i := 2) rfl rfl ?_
              refine wa_bipush (v := 20) (by decide) ?_
              refine wa_icmp_eq o_X4_isPlain_95 (by decide) (fun h16 => ?_) (fun h16 => ?_)
              · refine wa_iconst (v := 0) (by decide) ?_
                refine wa_zreturn false (rfl) rfl rfl ?_
                exact ⟨_, rfl, rfl, trivial⟩
              · refine wa_iload_n (i := 2) rfl rfl ?_
                refine wa_bipush (v := 18) (by decide) ?_
                refine wa_icmp_eq o_X4_isPlain_95 (by decide) (fun h17 => ?_) (fun h17 => ?_)
                · refine wa_iconst (v := 0) (by decide) ?_
                  refine wa_zreturn false (rfl) rfl rfl ?_
                  exact ⟨_, rfl, rfl, trivial⟩
                · refine wa_iconst (v := 1) (by decide) ?_
                  refine wa_goto o_X4_isPlain_96 (by decide) ?_
                  refine wa_zreturn true (rfl) rfl rfl ?_
                  exact ⟨_, rfl, rfl, trivial⟩
        · refine wa_iload_n (i := 2) rfl rfl ?_
          refine wa_bipush (v := 28) (by decide) ?_
          refine wa_icmp_lt o_X4_isPlain_67 (by decide) (fun h18 => ?_) (fun h18 => ?_)
          · refine wa_iconst (v := 0) (by decide) ?_
            refine wa_istore_nD (lv' := [(3, .int (bI false)), (2, .int v1), (0, .ref 25), (1, .int a0)]) (i := 3) rfl (by decide) rfl ?_
            refine wa_iload_n (i := 3) rfl rfl ?_
            refine wa_if_ne o_X4_isPlain_95 (by decide) (fun h19 => ?_) (fun h19 => ?_)
            · replace h19 := bI_t (b := false) (rfl) h19
              refine wa_iconst (v := 0) (by decide) ?_
              refine wa_zreturn false (rfl) rfl rfl ?_
              exact ⟨_, rfl, rfl, trivial⟩
            · replace h19 := bI_f (b := false) (rfl) h19
              refine wa_iload_n (i := 2) rfl rfl ?_
              refine wa_bipush (v := 19) (by decide) ?_
              refine wa_icmp_eq o_X4_isPlain_95 (by decide) (fun h20 => ?_) (fun h20 => ?_)
              · refine wa_iconst (v := 0) (by decide) ?_
                refine wa_zreturn false (rfl) rfl rfl ?_
                exact ⟨_, rfl, rfl, trivial⟩
              · refine wa_iload_n (i := 2) rfl rfl ?_
                refine wa_bipush (v := 20) (by decide) ?_
                refine wa_icmp_eq o_X4_isPlain_95 (by decide) (fun h21 => ?_) (fun h21 => ?_)
                · refine wa_iconst (v := 0) (by decide) ?_
                  refine wa_zreturn false (rfl) rfl rfl ?_
                  exact ⟨_, rfl, rfl, trivial⟩
                · refine wa_iload_n (i := 2) rfl rfl ?_
                  refine wa_bipush (v := 18) (by decide) ?_
                  refine wa_icmp_eq o_X4_isPlain_95 (by decide) (fun h22 => ?_) (fun h22 => ?_)
                  · refine wa_iconst (v := 0) (by decide) ?_
                    refine wa_zreturn false (rfl) rfl rfl ?_
                    exact ⟨_, rfl, rfl, trivial⟩
                  · refine wa_iconst (v := 1) (by decide) ?_
                    refine wa_goto o_X4_isPlain_96 (by decide) ?_
                    refine wa_zreturn true (rfl) rfl rfl ?_
                    exact ⟨_, rfl, rfl, trivial⟩
          · refine wa_iload_n (i := 2) rfl rfl ?_
            refine wa_bipush (v := 33) (by decide) ?_
            refine wa_icmp_gt o_X4_isPlain_67 (by decide) (fun h23 => ?_) (fun h23 => ?_)
            · refine wa_iconst (v := 0) (by decide) ?_
              refine wa_istore_nD (lv' := [(3, .int (bI false)), (2, .int v1), (0, .ref 25), (1, .int a0)]) (i := 3) rfl (by decide) rfl ?_
              refine wa_iload_n (i := 3) rfl rfl ?_
              refine wa_if_ne o_X4_isPlain_95 (by decide) (fun h24 => ?_) (fun h24 => ?_)
              · replace h24 := bI_t (b := false) (rfl) h24
                refine wa_iconst (v := 0) (by decide) ?_
                refine wa_zreturn false (rfl) rfl rfl ?_
                exact ⟨_, rfl, rfl, trivial⟩
              · replace h24 := bI_f (b := false) (rfl) h24
                refine wa_iload_n (i := 2) rfl rfl ?_
                refine wa_bipush (v := 19) (by decide) ?_
                refine wa_icmp_eq o_X4_isPlain_95 (by decide) (fun h25 => ?_) (fun h25 => ?_)
                · refine wa_iconst (v := 0) (by decide) ?_
                  refine wa_zreturn false (rfl) rfl rfl ?_
                  exact ⟨_, rfl, rfl, trivial⟩
                · refine wa_iload_n (i := 2) rfl rfl ?_
                  refine wa_bipush (v := 20) (by decide) ?_
                  refine wa_icmp_eq o_X4_isPlain_95 (by decide) (fun h26 => ?_) (fun h26 => ?_)
                  · refine wa_iconst (v := 0) (by decide) ?_
                    refine wa_zreturn false (rfl) rfl rfl ?_
                    exact ⟨_, rfl, rfl, trivial⟩
                  · refine wa_iload_n (i := 2) rfl rfl ?_
                    refine wa_bipush (v := 18) (by decide) ?_
                    refine wa_icmp_eq o_X4_isPlain_95 (by decide) (fun h27 => ?_) (fun h27 => ?_)
                    · refine wa_iconst (v := 0) (by decide) ?_
                      refine wa_zreturn false (rfl) rfl rfl ?_
                      exact ⟨_, rfl, rfl, trivial⟩
                    · refine wa_iconst (v := 1) (by decide) ?_
                      refine wa_goto o_X4_isPlain_96 (by decide) ?_
                      refine wa_zreturn true (rfl) rfl rfl ?_
                      exact ⟨_, rfl, rfl, trivial⟩
            · refine wa_iconst (v := 1) (by decide) ?_
              refine wa_goto o_X4_isPlain_68 (by decide) ?_
              refine wa_istore_nD (lv' := [(3, .int (bI true)), (2, .int v1), (0, .ref 25), (1, .int a0)]) (i := 3) rfl (by decide) rfl ?_
              refine wa_iload_n (i := 3) rfl rfl ?_
              refine wa_if_ne o_X4_isPlain_95 (by decide) (fun h28 => ?_) (fun h28 => ?_)
              · replace h28 := bI_t (b := true) (rfl) h28
                refine wa_iconst (v := 0) (by decide) ?_
                refine wa_zreturn false (rfl) rfl rfl ?_
                exact ⟨_, rfl, rfl, trivial⟩
              · replace h28 := bI_f (b := true) (rfl) h28
                refine wa_iload_n (i := 2) rfl rfl ?_
                refine wa_bipush (v := 19) (by decide) ?_
                refine wa_icmp_eq o_X4_isPlain_95 (by decide) (fun h29 => ?_) (fun h29 => ?_)
                · refine wa_iconst (v := 0) (by decide) ?_
                  refine wa_zreturn false (rfl) rfl rfl ?_
                  exact ⟨_, rfl, rfl, trivial⟩
                · refine wa_iload_n (i := 2) rfl rfl ?_
                  refine wa_bipush (v := 20) (by decide) ?_
                  refine wa_icmp_eq o_X4_isPlain_95 (by decide) (fun h30 => ?_) (fun h30 => ?_)
                  · refine wa_iconst (v := 0) (by decide) ?_
                    refine wa_zreturn false (rfl) rfl rfl ?_
                    exact ⟨_, rfl, rfl, trivial⟩
                  · refine wa_iload_n (i := 2) rfl rfl ?_
                    refine wa_bipush (v := 18) (by decide) ?_
                    refine wa_icmp_eq o_X4_isPlain_95 (by decide) (fun h31 => ?_) (fun h31 => ?_)
                    · refine wa_iconst (v := 0) (by decide) ?_
                      refine wa_zreturn false (rfl) rfl rfl ?_
                      exact ⟨_, rfl, rfl, trivial⟩
                    · refine wa_iconst (v := 1) (by decide) ?_
                      refine wa_goto o_X4_isPlain_96 (by decide) ?_
                      refine wa_zreturn true (rfl) rfl rfl ?_
                      exact ⟨_, rfl, rfl, trivial⟩
  · refine wa_aload_n (i := 0) rfl rfl ?_
    refine wa_getr ck_4 fl_4_25 ly_25 rf_25_0 ?_
    refine wa_iload_n (i := 1) rfl rfl ?_
    refine wa_bipush (v := 6) (by decide) ?_
    refine wa_ishr ?_
    refine wa_top (fun v32 hv32 => ?_)
    clear hv32
    refine wa_iconst (v := 5) (by decide) ?_
    refine wa_Vi (d9 := d - 1) [.int _, .int _] [] (sp_X2_fact G (d := d - 1) (by omega) σ _ _) (rfl) rfl rfl (zr (by omega)) mk_X2_fact ly_7 ml_4_39 (Nat.le_of_ble_eq_true rfl) (fun x34 s33 hs33 => ?_)
    obtain ⟨zs33, -⟩ := pI hs33
    subst zs33
    refine wa_iconst (v := 1) (by decide) ?_
    refine wa_icmp_ne o_X4_isPlain_31 (by decide) (fun h35 => ?_) (fun h35 => ?_)
    · refine wa_iconst (v := 0) (by decide) ?_
      refine wa_zreturn false (rfl) rfl rfl ?_
      exact ⟨_, rfl, rfl, trivial⟩
    · refine wa_iconst (v := 1) (by decide) ?_
      refine wa_goto o_X4_isPlain_32 (by decide) ?_
      refine wa_zreturn true (rfl) rfl rfl ?_
      exact ⟨_, rfl, rfl, trivial⟩
set_option maxHeartbeats 4000000 in
theorem sp_X11_isComparison (G : kG9) {d : Nat} (hd : 0 ≤ d) (σ : St) (a0 : Int32) : Ct G M_X11_isComparison d [.int a0] σ (fun r σ' => ∃ x : Bool, r = some (.int (bI x)) ∧ σ = σ' ∧ True) := by
  refine wa_start (by decide) rfl (Nat.le_of_ble_eq_true rfl) (lv := [(0, .int a0)]) rfl o_X11_isComparison_0 rfl ?_
  have ua0 := Int32.toInt_lt a0
  have wa0 := Int32.le_toInt a0
  refine wa_iload_n (i := 0) rfl rfl ?_
  refine wa_bipush (v := 10) (by decide) ?_
  refine wa_icmp_eq o_X11_isComparison_18 (by decide) (fun h1 => ?_) (fun h1 => ?_)
  · refine wa_iconst (v := 1) (by decide) ?_
    refine wa_goto o_X11_isComparison_23 (by decide) ?_
    refine wa_zreturn true (rfl) rfl rfl ?_
    exact ⟨_, rfl, rfl, trivial⟩
  · refine wa_iload_n (i := 0) rfl rfl ?_
    refine wa_bipush (v := 14) (by decide) ?_
    refine wa_icmp_lt o_X11_isComparison_22 (by decide) (fun h2 => ?_) (fun h2 => ?_)
    · refine wa_iconst (v := 0) (by decide) ?_
      refine wa_zreturn false (rfl) rfl rfl ?_
      exact ⟨_, rfl, rfl, trivial⟩
    · refine wa_iload_n (i := 0) rfl rfl ?_
      refine wa_bipush (v := 18) (by decide) ?_
      refine wa_icmp_gt o_X11_isComparison_22 (by decide) (fun h3 => ?_) (fun h3 => ?_)
      · refine wa_iconst (v := 0) (by decide) ?_
        refine wa_zreturn false (rfl) rfl rfl ?_
        exact ⟨_, rfl, rfl, trivial⟩
      · refine wa_iconst (v := 1) (by decide) ?_
        refine wa_goto o_X11_isComparison_23 (by decide) ?_
        refine wa_zreturn true (rfl) rfl rfl ?_
        exact ⟨_, rfl, rfl, trivial⟩
set_option maxHeartbeats 4000000 in
theorem sp_X4_isConclusion (G : kG9) {d : Nat} (hd : 1 ≤ d) (σ : St) (a0 : Int32) : Ct G M_X4_isConclusion d [.int a0] σ (fun r σ' => ∃ x : Bool, r = some (.int (bI x)) ∧ σ = σ' ∧ True) := by
  refine wa_start (by decide) rfl (Nat.le_of_ble_eq_true rfl) (lv := [(0, .int a0)]) rfl o_X4_isConclusion_0 rfl ?_
  have ua0 := Int32.toInt_lt a0
  have wa0 := Int32.le_toInt a0
  refine wa_iload_n (i := 0) rfl rfl ?_
  refine wa_bipush (v := 33) (by decide) ?_
  refine wa_icmp_eq o_X4_isConclusion_13 (by decide) (fun h1 => ?_) (fun h1 => ?_)
  · refine wa_iconst (v := 1) (by decide) ?_
    refine wa_goto o_X4_isConclusion_18 (by decide) ?_
    refine wa_zreturn true (rfl) rfl rfl ?_
    exact ⟨_, rfl, rfl, trivial⟩
  · refine wa_iload_n (i := 0) rfl rfl ?_
    refine wa_Si (d9 := d - 1) [.int _] [] (sp_X11_isComparison G (d := d - 1) (by omega) σ _) (rfl) rfl rfl (zr (by omega)) mk_X11_isComparison ml_4_105 (Nat.le_of_ble_eq_true rfl) (fun x3 s2 hs2 => ?_)
    obtain ⟨bx3, ex3, zs2, -⟩ := pB hs2
    subst ex3
    subst zs2
    refine wa_if_eq o_X4_isConclusion_17 (by decide) (fun h4 => ?_) (fun h4 => ?_)
    · replace h4 := bI_f (b := bx3) (rfl) h4
      refine wa_iconst (v := 0) (by decide) ?_
      refine wa_zreturn false (rfl) rfl rfl ?_
      exact ⟨_, rfl, rfl, trivial⟩
    · replace h4 := bI_t (b := bx3) (rfl) h4
      refine wa_iconst (v := 1) (by decide) ?_
      refine wa_goto o_X4_isConclusion_18 (by decide) ?_
      refine wa_zreturn true (rfl) rfl rfl ?_
      exact ⟨_, rfl, rfl, trivial⟩
set_option maxHeartbeats 4000000 in
theorem sp_X4_lastOf (G : kG9) {d : Nat} (hd : 2 ≤ d) (σ : St) (a0 : Int32) (a1 : Int32) (p1 : 0 ≤ a0.toInt ∧ a0.toInt < a1.toInt) : Ct G M_X4_lastOf d [.ref 25, .int a0, .int a1] σ (fun r σ' => ∃ x : Int32, r = some (.int x) ∧ σ = σ' ∧ (a0.toInt ≤ x.toInt) ∧ (x.toInt < a1.toInt) ∧ True) := by
  refine wa_start (by decide) rfl (Nat.le_of_ble_eq_true rfl) (lv := [(0, .ref 25), (1, .int a0), (2, .int a1)]) rfl o_X4_lastOf_0 rfl ?_
  have ua0 := Int32.toInt_lt a0
  have wa0 := Int32.le_toInt a0
  have ua1 := Int32.toInt_lt a1
  have wa1 := Int32.le_toInt a1
  refine wa_iload_n (i := 1) rfl rfl ?_
  refine wa_istore_nD (lv' := [(3, .int a0), (0, .ref 25), (1, .int a0), (2, .int a1)]) (i := 3) rfl (by decide) rfl ?_
  refine wa_pick [1, 3, 0] rfl ?_
  have hi2 : ∀ (n9_2 : Nat) (l3 : Int32), ((a0.toInt ≤ l3.toInt) ∧ (l3.toInt < a1.toInt) ∧ (True)) → (2147483647 - l3.toInt).toNat = n9_2 → WA G M_X4_lastOf (ZM G M_X4_lastOf d (fun r σ' => ∃ x : Int32, r = some (.int x) ∧ σ = σ' ∧ (a0.toInt ≤ x.toInt) ∧ (x.toInt < a1.toInt) ∧ True)) B_X4_lastOf_2 [(0, .ref 25), (2, .int a1), (3, .int l3)] [] σ := by
    intro n9_2
    induction n9_2 using Nat.strongRecOn with
    | _ n9_2 ih1 =>
      intro l3  i9 m9_2
      obtain ⟨jhi2_0, jhi2_1, -⟩ := i9
      have ul3 := Int32.toInt_lt l3
      have wl3 := Int32.le_toInt l3
      refine wa_iload_n (i := 3) rfl rfl ?_
      refine wa_iload_n (i := 2) rfl rfl ?_
      refine wa_iconst (v := 1) (by decide) ?_
      refine wa_isub ?_
      refine wa_top (fun v3 hv3 => ?_)
      have tv3 := i_subT hv3
      clear hv3
      refine wa_icmp_ge o_X4_lastOf_36 (by decide) (fun h4 => ?_) (fun h4 => ?_)
      · refine wa_iload_n (i := 3) rfl rfl ?_
        refine wa_ireturn rfl rfl ?_
        exact ⟨_, rfl, rfl, (by ((try simp only [vp_in_iff, Int32.lt_iff_toInt_lt, Int32.le_iff_toInt_le, ← Int32.toInt_inj, Int32.reduceToInt, n_1, n_2, n_8, Int32.toNatClampNeg, Int64.lt_iff_toInt_lt, Int64.le_iff_toInt_le, ← Int64.toInt_inj, Int64.reduceToInt, Int32.toInt_toInt64, lg_cmp_ge, lg_cmp_le, lg_cmp_gt, lg_cmp_lt, lg_cmp_eq, Bool.false_eq_true, Bool.true_eq_false, reduceCtorEq, false_iff, true_iff, iff_true, iff_false, and_true, true_and, and_false, false_and, reduceIte, ite_true, ite_false, eq_self] at *)) <;> omega), (by ((try simp only [vp_in_iff, Int32.lt_iff_toInt_lt, Int32.le_iff_toInt_le, ← Int32.toInt_inj, Int32.reduceToInt, n_1, n_2, n_8, Int32.toNatClampNeg, Int64.lt_iff_toInt_lt, Int64.le_iff_toInt_le, ← Int64.toInt_inj, Int64.reduceToInt, Int32.toInt_toInt64, lg_cmp_ge, lg_cmp_le, lg_cmp_gt, lg_cmp_lt, lg_cmp_eq, Bool.false_eq_true, Bool.true_eq_false, reduceCtorEq, false_iff, true_iff, iff_true, iff_false, and_true, true_and, and_false, false_and, reduceIte, ite_true, ite_false, eq_self] at *)) <;> omega), trivial⟩
      · have mh4 := nle_mx h4
        refine wa_aload_n (i := 0) rfl rfl ?_
        refine wa_getr ck_4 fl_4_25 ly_25 rf_25_0 ?_
        refine wa_aload_n (i := 0) rfl rfl ?_
        refine wa_geti ck_4 fl_4_33 ly_25 ?_
        refine wa_iload_n (i := 3) rfl rfl ?_
        refine wa_Vi (d9 := d - 1) [.int _, .int _] [] (sp_X2_step G (d := d - 1) (by omega) σ _ _) (rfl) rfl rfl (zr (by omega)) mk_X2_step ly_7 ml_4_43 (Nat.le_of_ble_eq_true rfl) (fun x6 s5 hs5 => ?_)
        obtain ⟨zs5, -⟩ := pI hs5
        subst zs5
        refine wa_bipush (v := 63) (by decide) ?_
        refine wa_iand ?_
        refine wa_top (fun v7 hv7 => ?_)
        have tv7 := i_andT hv7
        clear hv7
        refine wa_Si (d9 := d - 1) [.int _] [] (sp_X4_isConclusion G (d := d - 1) (by omega) σ _) (rfl) rfl rfl (zr (by omega)) mk_X4_isConclusion ml_4_102 (Nat.le_of_ble_eq_true rfl) (fun x9 s8 hs8 => ?_)
        obtain ⟨bx9, ex9, zs8, -⟩ := pB hs8
        subst ex9
        subst zs8
        refine wa_if_ne o_X4_lastOf_36 (by decide) (fun h10 => ?_) (fun h10 => ?_)
        · replace h10 := bI_t (b := bx9) (rfl) h10
          refine wa_iload_n (i := 3) rfl rfl ?_
          refine wa_ireturn rfl rfl ?_
          exact ⟨_, rfl, rfl, (by ((try simp only [vp_in_iff, Int32.lt_iff_toInt_lt, Int32.le_iff_toInt_le, ← Int32.toInt_inj, Int32.reduceToInt, n_1, n_2, n_8, Int32.toNatClampNeg, Int64.lt_iff_toInt_lt, Int64.le_iff_toInt_le, ← Int64.toInt_inj, Int64.reduceToInt, Int32.toInt_toInt64, lg_cmp_ge, lg_cmp_le, lg_cmp_gt, lg_cmp_lt, lg_cmp_eq, Bool.false_eq_true, Bool.true_eq_false, reduceCtorEq, false_iff, true_iff, iff_true, iff_false, and_true, true_and, and_false, false_and, reduceIte, ite_true, ite_false, eq_self] at *)) <;> omega), (by ((try simp only [vp_in_iff, Int32.lt_iff_toInt_lt, Int32.le_iff_toInt_le, ← Int32.toInt_inj, Int32.reduceToInt, n_1, n_2, n_8, Int32.toNatClampNeg, Int64.lt_iff_toInt_lt, Int64.le_iff_toInt_le, ← Int64.toInt_inj, Int64.reduceToInt, Int32.toInt_toInt64, lg_cmp_ge, lg_cmp_le, lg_cmp_gt, lg_cmp_lt, lg_cmp_eq, Bool.false_eq_true, Bool.true_eq_false, reduceCtorEq, false_iff, true_iff, iff_true, iff_false, and_true, true_and, and_false, false_and, reduceIte, ite_true, ite_false, eq_self] at *)) <;> omega), trivial⟩
        · replace h10 := bI_f (b := bx9) (rfl) h10
          refine wa_iinc (v := (1)) (lv' := fun y11 => [(3, .int y11), (0, .ref 25), (2, .int a1)]) (by decide) rfl (by decide) (fun _ => rfl) (fun y11 hy11 => ?_)
          have ty11 := i_addT hy11.symm
          clear hy11
          refine wa_goto o_X4_lastOf_2 (by decide) ?_
          refine wa_pick [1, 2, 0] rfl ?_
          exact ih1 _ (by ((try simp only [vp_in_iff, Int32.lt_iff_toInt_lt, Int32.le_iff_toInt_le, ← Int32.toInt_inj, Int32.reduceToInt, n_1, n_2, n_8, Int32.toNatClampNeg, Int64.lt_iff_toInt_lt, Int64.le_iff_toInt_le, ← Int64.toInt_inj, Int64.reduceToInt, Int32.toInt_toInt64, lg_cmp_ge, lg_cmp_le, lg_cmp_gt, lg_cmp_lt, lg_cmp_eq, Bool.false_eq_true, Bool.true_eq_false, reduceCtorEq, false_iff, true_iff, iff_true, iff_false, and_true, true_and, and_false, false_and, reduceIte, ite_true, ite_false, eq_self] at *)) <;> omega) _ ⟨(by ((try simp only [vp_in_iff, Int32.lt_iff_toInt_lt, Int32.le_iff_toInt_le, ← Int32.toInt_inj, Int32.reduceToInt, n_1, n_2, n_8, Int32.toNatClampNeg, Int64.lt_iff_toInt_lt, Int64.le_iff_toInt_le, ← Int64.toInt_inj, Int64.reduceToInt, Int32.toInt_toInt64, lg_cmp_ge, lg_cmp_le, lg_cmp_gt, lg_cmp_lt, lg_cmp_eq, Bool.false_eq_true, Bool.true_eq_false, reduceCtorEq, false_iff, true_iff, iff_true, iff_false, and_true, true_and, and_false, false_and, reduceIte, ite_true, ite_false, eq_self] at *)) <;> omega), (by ((try simp only [vp_in_iff, Int32.lt_iff_toInt_lt, Int32.le_iff_toInt_le, ← Int32.toInt_inj, Int32.reduceToInt, n_1, n_2, n_8, Int32.toNatClampNeg, Int64.lt_iff_toInt_lt, Int64.le_iff_toInt_le, ← Int64.toInt_inj, Int64.reduceToInt, Int32.toInt_toInt64, lg_cmp_ge, lg_cmp_le, lg_cmp_gt, lg_cmp_lt, lg_cmp_eq, Bool.false_eq_true, Bool.true_eq_false, reduceCtorEq, false_iff, true_iff, iff_true, iff_false, and_true, true_and, and_false, false_and, reduceIte, ite_true, ite_false, eq_self] at *)) <;> omega), trivial⟩ rfl
  exact hi2 _ _ ⟨(by ((try simp only [vp_in_iff, Int32.lt_iff_toInt_lt, Int32.le_iff_toInt_le, ← Int32.toInt_inj, Int32.reduceToInt, n_1, n_2, n_8, Int32.toNatClampNeg, Int64.lt_iff_toInt_lt, Int64.le_iff_toInt_le, ← Int64.toInt_inj, Int64.reduceToInt, Int32.toInt_toInt64, lg_cmp_ge, lg_cmp_le, lg_cmp_gt, lg_cmp_lt, lg_cmp_eq, Bool.false_eq_true, Bool.true_eq_false, reduceCtorEq, false_iff, true_iff, iff_true, iff_false, and_true, true_and, and_false, false_and, reduceIte, ite_true, ite_false, eq_self] at *)) <;> omega), (by ((try simp only [vp_in_iff, Int32.lt_iff_toInt_lt, Int32.le_iff_toInt_le, ← Int32.toInt_inj, Int32.reduceToInt, n_1, n_2, n_8, Int32.toNatClampNeg, Int64.lt_iff_toInt_lt, Int64.le_iff_toInt_le, ← Int64.toInt_inj, Int64.reduceToInt, Int32.toInt_toInt64, lg_cmp_ge, lg_cmp_le, lg_cmp_gt, lg_cmp_lt, lg_cmp_eq, Bool.false_eq_true, Bool.true_eq_false, reduceCtorEq, false_iff, true_iff, iff_true, iff_false, and_true, true_and, and_false, false_and, reduceIte, ite_true, ite_false, eq_self] at *)) <;> omega), trivial⟩ rfl
set_option maxHeartbeats 4000000 in
theorem sp_X4_waysOf (G : kG9) {d : Nat} (hd : 0 ≤ d) (σ : St) (a0 : Int32) : Ct G M_X4_waysOf d [.int a0] σ (fun r σ' => ∃ x : Int32, r = some (.int x) ∧ σ = σ' ∧ True) := by
  refine wa_start (by decide) rfl (Nat.le_of_ble_eq_true rfl) (lv := [(0, .int a0)]) rfl o_X4_waysOf_0 rfl ?_
  have ua0 := Int32.toInt_lt a0
  have wa0 := Int32.le_toInt a0
  refine wa_iload_n (i := 0) rfl rfl ?_
  refine wa_bipush (v := 63) (by decide) ?_
  refine wa_iand ?_
  refine wa_top (fun v1 hv1 => ?_)
  have tv1 := i_andT hv1
  clear hv1
  refine wa_istore_nD (lv' := [(1, .int v1), (0, .int a0)]) (i := 1) rfl (by decide) rfl ?_
  refine wa_iload_n (i := 1) rfl rfl ?_
  refine wa_bipush (v := 31) (by decide) ?_
  refine wa_icmp_eq o_X4_waysOf_17 (by decide) (fun h2 => ?_) (fun h2 => ?_)
  · refine wa_iload_n (i := 0) rfl rfl ?_
    refine wa_bipush (v := 6) (by decide) ?_
    refine wa_ishr ?_
    refine wa_top (fun v3 hv3 => ?_)
    clear hv3
    refine wa_goto o_X4_waysOf_41 (by decide) ?_
    refine wa_ireturn rfl rfl ?_
    exact ⟨_, rfl, rfl, trivial⟩
  · refine wa_iload_n (i := 1) rfl rfl ?_
    refine wa_bipush (v := 32) (by decide) ?_
    refine wa_icmp_ne o_X4_waysOf_24 (by decide) (fun h4 => ?_) (fun h4 => ?_)
    · refine wa_iload_n (i := 1) rfl rfl ?_
      refine wa_bipush (v := 28) (by decide) ?_
      refine wa_icmp_lt o_X4_waysOf_40 (by decide) (fun h5 => ?_) (fun h5 => ?_)
      · refine wa_iconst (v := 1) (by decide) ?_
        refine wa_ireturn rfl rfl ?_
        exact ⟨_, rfl, rfl, trivial⟩
      · refine wa_iload_n (i := 1) rfl rfl ?_
        refine wa_bipush (v := 30) (by decide) ?_
        refine wa_icmp_gt o_X4_waysOf_40 (by decide) (fun h6 => ?_) (fun h6 => ?_)
        · refine wa_iconst (v := 1) (by decide) ?_
          refine wa_ireturn rfl rfl ?_
          exact ⟨_, rfl, rfl, trivial⟩
        · refine wa_iconst (v := 2) (by decide) ?_
          refine wa_goto o_X4_waysOf_41 (by decide) ?_
          refine wa_ireturn rfl rfl ?_
          exact ⟨_, rfl, rfl, trivial⟩
    · refine wa_iload_n (i := 0) rfl rfl ?_
      refine wa_bipush (v := 6) (by decide) ?_
      refine wa_ishr ?_
      refine wa_top (fun v7 hv7 => ?_)
      clear hv7
      refine wa_goto o_X4_waysOf_41 (by decide) ?_
      refine wa_ireturn rfl rfl ?_
      exact ⟨_, rfl, rfl, trivial⟩
set_option maxHeartbeats 4000000 in
theorem sp_X4_casesOf (G : kG9) {d : Nat} (hd : 1 ≤ d) (σ : St) (a0 : Int32) (a1 : Int32) (p1 : a1.toInt < 2147483647) : Ct G M_X4_casesOf d [.ref 25, .int a0, .int a1] σ (fun r σ' => ∃ x : Int32, r = some (.int x) ∧ σ = σ' ∧ True) := by
  refine wa_start (by decide) rfl (Nat.le_of_ble_eq_true rfl) (lv := [(0, .ref 25), (1, .int a0), (2, .int a1)]) rfl o_X4_casesOf_0 rfl ?_
  have ua0 := Int32.toInt_lt a0
  have wa0 := Int32.le_toInt a0
  have ua1 := Int32.toInt_lt a1
  have wa1 := Int32.le_toInt a1
  refine wa_iconst (v := 1) (by decide) ?_
  refine wa_istore_nD (lv' := [(3, .int 1), (0, .ref 25), (1, .int a0), (2, .int a1)]) (i := 3) rfl (by decide) rfl ?_
  refine wa_iload_n (i := 1) rfl rfl ?_
  refine wa_istoreD (lv' := [(4, .int a0), (3, .int 1), (0, .ref 25), (1, .int a0), (2, .int a1)]) (by decide) rfl ?_
  refine wa_pick [2, 4, 1, 0] rfl ?_
  have hi2 : ∀ (n9_5 : Nat) (l3 : Int32) (l4 : Int32), (True) → (2147483647 - l4.toInt).toNat = n9_5 → WA G M_X4_casesOf (ZM G M_X4_casesOf d (fun r σ' => ∃ x : Int32, r = some (.int x) ∧ σ = σ' ∧ True)) B_X4_casesOf_5 [(0, .ref 25), (2, .int a1), (3, .int l3), (4, .int l4)] [] σ := by
    intro n9_5
    induction n9_5 using Nat.strongRecOn with
    | _ n9_5 ih1 =>
      intro l3 l4  i9 m9_5
      have ul3 := Int32.toInt_lt l3
      have wl3 := Int32.le_toInt l3
      have ul4 := Int32.toInt_lt l4
      have wl4 := Int32.le_toInt l4
      refine wa_iload rfl ?_
      refine wa_iload_n (i := 2) rfl rfl ?_
      refine wa_icmp_gt o_X4_casesOf_41 (by decide) (fun h3 => ?_) (fun h3 => ?_)
      · refine wa_iload_n (i := 3) rfl rfl ?_
        refine wa_ireturn rfl rfl ?_
        exact ⟨_, rfl, rfl, trivial⟩
      · refine wa_bipush (v := 65) (by decide) ?_
        refine wa_iload_n (i := 3) rfl rfl ?_
        refine wa_aload_n (i := 0) rfl rfl ?_
        refine wa_getr ck_4 fl_4_25 ly_25 rf_25_0 ?_
        refine wa_aload_n (i := 0) rfl rfl ?_
        refine wa_geti ck_4 fl_4_33 ly_25 ?_
        refine wa_iload rfl ?_
        refine wa_Vi (d9 := d - 1) [.int _, .int _] [.int l3, .int 65] (sp_X2_step G (d := d - 1) (by omega) σ _ _) (rfl) rfl rfl (zr (by omega)) mk_X2_step ly_7 ml_4_43 (Nat.le_of_ble_eq_true rfl) (fun x5 s4 hs4 => ?_)
        obtain ⟨zs4, -⟩ := pI hs4
        subst zs4
        refine wa_Si (d9 := d - 1) [.int _] [.int l3, .int 65] (sp_X4_waysOf G (d := d - 1) (by omega) σ _) (rfl) rfl rfl (zr (by omega)) mk_X4_waysOf ml_4_108 (Nat.le_of_ble_eq_true rfl) (fun x7 s6 hs6 => ?_)
        obtain ⟨zs6, -⟩ := pI hs6
        subst zs6
        refine wa_imul ?_
        refine wa_top (fun v8 hv8 => ?_)
        have tv8 := i_mulT hv8
        clear hv8
        refine wa_minI zs (allW_in (kT_5 _ (List.mem_of_getElem? (i := 25) rfl)) rfl) (Nat.le_of_ble_eq_true rfl) ?_
        refine wa_top (fun v9 hv9 => ?_)
        have tv9 := i_minI hv9
        clear hv9
        refine wa_istore_nD (lv' := [(3, .int v9), (0, .ref 25), (2, .int a1), (4, .int l4)]) (i := 3) rfl (by decide) rfl ?_
        refine wa_iinc (v := (1)) (lv' := fun y10 => [(4, .int y10), (3, .int v9), (0, .ref 25), (2, .int a1)]) (by decide) rfl (by decide) (fun _ => rfl) (fun y10 hy10 => ?_)
        have ty10 := i_addT hy10.symm
        clear hy10
        refine wa_goto o_X4_casesOf_5 (by decide) ?_
        refine wa_pick [2, 3, 1, 0] rfl ?_
        exact ih1 _ (by ((try simp only [vp_in_iff, Int32.lt_iff_toInt_lt, Int32.le_iff_toInt_le, ← Int32.toInt_inj, Int32.reduceToInt, n_1, n_2, n_8, Int32.toNatClampNeg, Int64.lt_iff_toInt_lt, Int64.le_iff_toInt_le, ← Int64.toInt_inj, Int64.reduceToInt, Int32.toInt_toInt64, lg_cmp_ge, lg_cmp_le, lg_cmp_gt, lg_cmp_lt, lg_cmp_eq, Bool.false_eq_true, Bool.true_eq_false, reduceCtorEq, false_iff, true_iff, iff_true, iff_false, and_true, true_and, and_false, false_and, reduceIte, ite_true, ite_false, eq_self] at *)) <;> omega) _ _ trivial rfl
  exact hi2 _ _ _ trivial rfl
set_option maxHeartbeats 4000000 in
theorem sp_X4_top (G : kG9) {d : Nat} (hd : 0 ≤ d) (σ : St) (a0 : Int32) : Ct G M_X4_top d [.ref 25, .int a0] σ (fun r σ' => ∃ x : Int32, r = some (.int x) ∧ σ = σ' ∧ True) := by
  refine wa_start (by decide) rfl (Nat.le_of_ble_eq_true rfl) (lv := [(0, .ref 25), (1, .int a0)]) rfl o_X4_top_0 rfl ?_
  have ua0 := Int32.toInt_lt a0
  have wa0 := Int32.le_toInt a0
  refine wa_iload_n (i := 1) rfl rfl ?_
  refine wa_if_lt o_X4_top_19 (by decide) (fun h1 => ?_) (fun h1 => ?_)
  · refine wa_iconst (v := 0) (by decide) ?_
    refine wa_ireturn rfl rfl ?_
    exact ⟨_, rfl, rfl, trivial⟩
  · refine wa_iload_n (i := 1) rfl rfl ?_
    refine wa_bipush (v := 8) (by decide) ?_
    refine wa_icmp_ge o_X4_top_19 (by decide) (fun h2 => ?_) (fun h2 => ?_)
    · refine wa_iconst (v := 0) (by decide) ?_
      refine wa_ireturn rfl rfl ?_
      exact ⟨_, rfl, rfl, trivial⟩
    · have mh2 := nle_mx h2
      refine wa_aload_n (i := 0) rfl rfl ?_
      refine wa_getr ck_4 fl_4_15 ly_25 rf_25_2 ?_
      refine wa_iload_n (i := 1) rfl rfl ?_
      refine wa_iald ly_27 (by ((try simp only [vp_in_iff, Int32.lt_iff_toInt_lt, Int32.le_iff_toInt_le, ← Int32.toInt_inj, Int32.reduceToInt, n_1, n_2, n_8, Int32.toNatClampNeg, Int64.lt_iff_toInt_lt, Int64.le_iff_toInt_le, ← Int64.toInt_inj, Int64.reduceToInt, Int32.toInt_toInt64, lg_cmp_ge, lg_cmp_le, lg_cmp_gt, lg_cmp_lt, lg_cmp_eq, Bool.false_eq_true, Bool.true_eq_false, reduceCtorEq, false_iff, true_iff, iff_true, iff_false, and_true, true_and, and_false, false_and, reduceIte, ite_true, ite_false, eq_self] at *)) <;> omega) ?_
      refine wa_goto o_X4_top_20 (by decide) ?_
      refine wa_ireturn rfl rfl ?_
      exact ⟨_, rfl, rfl, trivial⟩
set_option maxHeartbeats 4000000 in
theorem sp_X4_form (G : kG9) {d : Nat} (hd : 0 ≤ d) (σ : St) (a0 : Int32) (a1 : Int32) : Ct G M_X4_form d [.int a0, .int a1] σ (fun r σ' => ∃ x : Int32, r = some (.int x) ∧ σ = σ' ∧ (0 ≤ x.toInt ∧ x.toInt ≤ 1914) ∧ True) := by
  refine wa_start (by decide) rfl (Nat.le_of_ble_eq_true rfl) (lv := [(0, .int a0), (1, .int a1)]) rfl o_X4_form_0 rfl ?_
  have ua0 := Int32.toInt_lt a0
  have wa0 := Int32.le_toInt a0
  have ua1 := Int32.toInt_lt a1
  have wa1 := Int32.le_toInt a1
  refine wa_iload_n (i := 0) rfl rfl ?_
  refine wa_if_lt o_X4_form_32 (by decide) (fun h1 => ?_) (fun h1 => ?_)
  · refine wa_iconst (v := 0) (by decide) ?_
    refine wa_ireturn rfl rfl ?_
    exact ⟨_, rfl, rfl, (by ((try simp only [vp_in_iff, Int32.lt_iff_toInt_lt, Int32.le_iff_toInt_le, ← Int32.toInt_inj, Int32.reduceToInt, n_1, n_2, n_8, Int32.toNatClampNeg, Int64.lt_iff_toInt_lt, Int64.le_iff_toInt_le, ← Int64.toInt_inj, Int64.reduceToInt, Int32.toInt_toInt64, lg_cmp_ge, lg_cmp_le, lg_cmp_gt, lg_cmp_lt, lg_cmp_eq, Bool.false_eq_true, Bool.true_eq_false, reduceCtorEq, false_iff, true_iff, iff_true, iff_false, and_true, true_and, and_false, false_and, reduceIte, ite_true, ite_false, eq_self] at *)) <;> omega), trivial⟩
  · refine wa_iload_n (i := 0) rfl rfl ?_
    refine wa_bipush (v := 8) (by decide) ?_
    refine wa_icmp_ge o_X4_form_32 (by decide) (fun h2 => ?_) (fun h2 => ?_)
    · refine wa_iconst (v := 0) (by decide) ?_
      refine wa_ireturn rfl rfl ?_
      exact ⟨_, rfl, rfl, (by ((try simp only [vp_in_iff, Int32.lt_iff_toInt_lt, Int32.le_iff_toInt_le, ← Int32.toInt_inj, Int32.reduceToInt, n_1, n_2, n_8, Int32.toNatClampNeg, Int64.lt_iff_toInt_lt, Int64.le_iff_toInt_le, ← Int64.toInt_inj, Int64.reduceToInt, Int32.toInt_toInt64, lg_cmp_ge, lg_cmp_le, lg_cmp_gt, lg_cmp_lt, lg_cmp_eq, Bool.false_eq_true, Bool.true_eq_false, reduceCtorEq, false_iff, true_iff, iff_true, iff_false, and_true, true_and, and_false, false_and, reduceIte, ite_true, ite_false, eq_self] at *)) <;> omega), trivial⟩
    · have mh2 := nle_mx h2
      refine wa_iload_n (i := 1) rfl rfl ?_
      refine wa_if_lt o_X4_form_32 (by decide) (fun h3 => ?_) (fun h3 => ?_)
      · refine wa_iconst (v := 0) (by decide) ?_
        refine wa_ireturn rfl rfl ?_
        exact ⟨_, rfl, rfl, (by ((try simp only [vp_in_iff, Int32.lt_iff_toInt_lt, Int32.le_iff_toInt_le, ← Int32.toInt_inj, Int32.reduceToInt, n_1, n_2, n_8, Int32.toNatClampNeg, Int64.lt_iff_toInt_lt, Int64.le_iff_toInt_le, ← Int64.toInt_inj, Int64.reduceToInt, Int32.toInt_toInt64, lg_cmp_ge, lg_cmp_le, lg_cmp_gt, lg_cmp_lt, lg_cmp_eq, Bool.false_eq_true, Bool.true_eq_false, reduceCtorEq, false_iff, true_iff, iff_true, iff_false, and_true, true_and, and_false, false_and, reduceIte, ite_true, ite_false, eq_self] at *)) <;> omega), trivial⟩
      · refine wa_iload_n (i := 1) rfl rfl ?_
        refine wa_bipush (v := 40) (by decide) ?_
        refine wa_icmp_ge o_X4_form_32 (by decide) (fun h4 => ?_) (fun h4 => ?_)
        · refine wa_iconst (v := 0) (by decide) ?_
          refine wa_ireturn rfl rfl ?_
          exact ⟨_, rfl, rfl, (by ((try simp only [vp_in_iff, Int32.lt_iff_toInt_lt, Int32.le_iff_toInt_le, ← Int32.toInt_inj, Int32.reduceToInt, n_1, n_2, n_8, Int32.toNatClampNeg, Int64.lt_iff_toInt_lt, Int64.le_iff_toInt_le, ← Int64.toInt_inj, Int64.reduceToInt, Int32.toInt_toInt64, lg_cmp_ge, lg_cmp_le, lg_cmp_gt, lg_cmp_lt, lg_cmp_eq, Bool.false_eq_true, Bool.true_eq_false, reduceCtorEq, false_iff, true_iff, iff_true, iff_false, and_true, true_and, and_false, false_and, reduceIte, ite_true, ite_false, eq_self] at *)) <;> omega), trivial⟩
        · have mh4 := nle_mx h4
          refine wa_iload_n (i := 0) rfl rfl ?_
          refine wa_bipush (v := 40) (by decide) ?_
          refine wa_imul ?_
          refine wa_top (fun v5 hv5 => ?_)
          have tv5 := i_mulT hv5
          clear hv5
          refine wa_iload_n (i := 1) rfl rfl ?_
          refine wa_iadd ?_
          refine wa_top (fun v6 hv6 => ?_)
          have tv6 := i_addT hv6
          clear hv6
          refine wa_bipush (v := 6) (by decide) ?_
          refine wa_imul ?_
          refine wa_top (fun v7 hv7 => ?_)
          have tv7 := i_mulT hv7
          clear hv7
          refine wa_goto o_X4_form_33 (by decide) ?_
          refine wa_ireturn rfl rfl ?_
          exact ⟨_, rfl, rfl, (by ((try simp only [vp_in_iff, Int32.lt_iff_toInt_lt, Int32.le_iff_toInt_le, ← Int32.toInt_inj, Int32.reduceToInt, n_1, n_2, n_8, Int32.toNatClampNeg, Int64.lt_iff_toInt_lt, Int64.le_iff_toInt_le, ← Int64.toInt_inj, Int64.reduceToInt, Int32.toInt_toInt64, lg_cmp_ge, lg_cmp_le, lg_cmp_gt, lg_cmp_lt, lg_cmp_eq, Bool.false_eq_true, Bool.true_eq_false, reduceCtorEq, false_iff, true_iff, iff_true, iff_false, and_true, true_and, and_false, false_and, reduceIte, ite_true, ite_false, eq_self] at *)) <;> omega), trivial⟩
set_option maxHeartbeats 4000000 in
theorem sp_X4_lineOf (G : kG9) {d : Nat} (hd : 0 ≤ d) (σ : St) (a0 : Int32) (a1 : Int32) (a2 : Int32) (p1 : 0 ≤ a0.toInt ∧ a0.toInt ≤ 1914) : Ct G M_X4_lineOf d [.ref 25, .int a0, .int a1, .int a2] σ (fun r σ' => ∃ x : Int32, r = some (.int x) ∧ Fm [25, 28] [] σ σ' ∧ True) := by
  refine wa_start (by decide) rfl (Nat.le_of_ble_eq_true rfl) (lv := [(0, .ref 25), (1, .int a0), (2, .int a1), (3, .int a2)]) rfl o_X4_lineOf_0 rfl ?_
  have ua0 := Int32.toInt_lt a0
  have wa0 := Int32.le_toInt a0
  have ua1 := Int32.toInt_lt a1
  have wa1 := Int32.le_toInt a1
  have ua2 := Int32.toInt_lt a2
  have wa2 := Int32.le_toInt a2
  refine wa_iconst (v := 1) (by decide) ?_
  refine wa_istoreD (lv' := [(4, .int (bI true)), (0, .ref 25), (1, .int a0), (2, .int a1), (3, .int a2)]) (by decide) rfl ?_
  refine wa_iconst (v := 0) (by decide) ?_
  refine wa_istoreD (lv' := [(5, .int 0), (4, .int (bI true)), (0, .ref 25), (1, .int a0), (2, .int a1), (3, .int a2)]) (by decide) rfl ?_
  refine wa_pick [2, 3, 4, 5, 1, 0] rfl ?_
  have hi3 : ∀ (n9_6 : Nat) (l4 : Bool) (l5 : Int32) (s1 : St), ((Fm [25, 28] [] σ s1) ∧ (0 ≤ l5.toInt) ∧ (True)) → (2147483647 - l5.toInt).toNat = n9_6 → WA G M_X4_lineOf (ZM G M_X4_lineOf d (fun r σ' => ∃ x : Int32, r = some (.int x) ∧ Fm [25, 28] [] σ σ' ∧ True)) B_X4_lineOf_6 [(0, .ref 25), (1, .int a0), (2, .int a1), (3, .int a2), (4, .int (bI l4)), (5, .int l5)] [] s1 := by
    intro n9_6
    induction n9_6 using Nat.strongRecOn with
    | _ n9_6 ih2 =>
      intro l4 l5 s1 i9 m9_6
      obtain ⟨Fs1, jhi3_0, -⟩ := i9
      have ul5 := Int32.toInt_lt l5
      have wl5 := Int32.le_toInt l5
      refine wa_iload rfl ?_
      refine wa_iconst (v := 4) (by decide) ?_
      refine wa_icmp_ge o_X4_lineOf_85 (by decide) (fun h4 => ?_) (fun h4 => ?_)
      · refine wa_iload_n (i := 2) rfl rfl ?_
        refine wa_ineg ?_
        refine wa_top (fun v5 hv5 => ?_)
        have tv5 := i_negT hv5
        clear hv5
        refine wa_i2l ?_
        refine wa_aload_n (i := 0) rfl rfl ?_
        refine wa_getr ck_4 fl_4_11 ly_25 rf_25_1 ?_
        refine wa_iload_n (i := 1) rfl rfl ?_
        refine wa_iconst (v := 4) (by decide) ?_
        refine wa_iadd ?_
        refine wa_top (fun v6 hv6 => ?_)
        have tv6 := i_addT hv6
        clear hv6
        refine wa_lald ly_26 (by ((try simp only [vp_in_iff, Int32.lt_iff_toInt_lt, Int32.le_iff_toInt_le, ← Int32.toInt_inj, Int32.reduceToInt, n_1, n_2, n_8, Int32.toNatClampNeg, Int64.lt_iff_toInt_lt, Int64.le_iff_toInt_le, ← Int64.toInt_inj, Int64.reduceToInt, Int32.toInt_toInt64, lg_cmp_ge, lg_cmp_le, lg_cmp_gt, lg_cmp_lt, lg_cmp_eq, Bool.false_eq_true, Bool.true_eq_false, reduceCtorEq, false_iff, true_iff, iff_true, iff_false, and_true, true_and, and_false, false_and, reduceIte, ite_true, ite_false, eq_self] at *)) <;> omega) ?_
        refine wa_lmul ?_
        refine wa_topl (fun v7 hv7 => ?_)
        clear hv7
        refine wa_iload_n (i := 3) rfl rfl ?_
        refine wa_i2l ?_
        refine wa_lsub ?_
        refine wa_topl (fun v8 hv8 => ?_)
        clear hv8
        refine wa_lstoreD (lv' := [(5, .long v8), (0, .ref 25), (1, .int a0), (2, .int a1), (3, .int a2), (4, .int (bI l4))]) (by decide) rfl ?_
        refine wa_aload_n (i := 0) rfl rfl ?_
        refine wa_dup rfl ?_
        refine wa_getz ck_4 fl_4_61 ly_25 ?_
        refine wa_lload rfl ?_
        refine wa_absL zs (allW_in (kT_5 _ (List.mem_of_getElem? (i := 49) rfl)) rfl) (Nat.le_of_ble_eq_true rfl) ?_
        refine wa_topl (fun v9 hv9 => ?_)
        have tv9 := i_absL hv9
        clear hv9
        refine wa_ldc2 (v := (99999)) (allW_in (kT_5 _ (List.mem_of_getElem? (i := 53) rfl)) rfl) ?_
        refine wa_lcmp ?_
        refine wa_top (fun v10 hv10 => ?_)
        have tv10 := i_cmpT hv10
        clear hv10
        refine wa_if_le o_X4_lineOf_123 (by decide) (fun h11 => ?_) (fun h11 => ?_)
        · refine wa_iconst (v := 0) (by decide) ?_
          refine wa_ior ?_
          refine wa_rw (bI_or (a := (gb s1 25 7)) (b := false) rfl rfl) ?_
          refine wa_putz ((gb s1 25 7) || false) (rfl) ck_4 fl_4_61 ly_25 (fun s12 hs12 => ?_)
          have Fs12 : Fm [25, 28] [] σ s12 := by rw [hs12]; exact Fm.sb Fs1 rfl
          refine wa_aload_n (i := 0) rfl rfl ?_
          refine wa_getr ck_4 fl_4_19 ly_25 rf_25_3 ?_
          refine wa_iconst (v := 4) (by decide) ?_
          refine wa_lload rfl ?_
          refine wa_l2i ?_
          refine wa_top (fun v13 hv13 => ?_)
          clear hv13
          refine wa_iast ly_28 (by ((try simp only [vp_in_iff, Int32.lt_iff_toInt_lt, Int32.le_iff_toInt_le, ← Int32.toInt_inj, Int32.reduceToInt, n_1, n_2, n_8, Int32.toNatClampNeg, Int64.lt_iff_toInt_lt, Int64.le_iff_toInt_le, ← Int64.toInt_inj, Int64.reduceToInt, Int32.toInt_toInt64, lg_cmp_ge, lg_cmp_le, lg_cmp_gt, lg_cmp_lt, lg_cmp_eq, Bool.false_eq_true, Bool.true_eq_false, reduceCtorEq, false_iff, true_iff, iff_true, iff_false, and_true, true_and, and_false, false_and, reduceIte, ite_true, ite_false, eq_self] at *)) <;> omega) (fun s14 hs14 => ?_)
          have Fs14 : Fm [25, 28] [] σ s14 := by rw [hs14]; exact Fm.si Fs12 rfl
          refine wa_aload_n (i := 0) rfl rfl ?_
          refine wa_getr ck_4 fl_4_19 ly_25 rf_25_3 ?_
          refine wa_iconst (v := 5) (by decide) ?_
          refine wa_iconst (v := 0) (by decide) ?_
          refine wa_iast ly_28 (by ((try simp only [vp_in_iff, Int32.lt_iff_toInt_lt, Int32.le_iff_toInt_le, ← Int32.toInt_inj, Int32.reduceToInt, n_1, n_2, n_8, Int32.toNatClampNeg, Int64.lt_iff_toInt_lt, Int64.le_iff_toInt_le, ← Int64.toInt_inj, Int64.reduceToInt, Int32.toInt_toInt64, lg_cmp_ge, lg_cmp_le, lg_cmp_gt, lg_cmp_lt, lg_cmp_eq, Bool.false_eq_true, Bool.true_eq_false, reduceCtorEq, false_iff, true_iff, iff_true, iff_false, and_true, true_and, and_false, false_and, reduceIte, ite_true, ite_false, eq_self] at *)) <;> omega) (fun s15 hs15 => ?_)
          have Fs15 : Fm [25, 28] [] σ s15 := by rw [hs15]; exact Fm.si Fs14 rfl
          refine wa_iload rfl ?_
          refine wa_if_eq o_X4_lineOf_166 (by decide) (fun h16 => ?_) (fun h16 => ?_)
          · replace h16 := bI_f (b := l4) (rfl) h16
            refine wa_iconst (v := (-1)) (by decide) ?_
            refine wa_ireturn rfl rfl ?_
            exact ⟨_, rfl, Fs15, trivial⟩
          · replace h16 := bI_t (b := l4) (rfl) h16
            refine wa_lload rfl ?_
            refine wa_lconst (v := 0) (by decide) ?_
            refine wa_lcmp ?_
            refine wa_top (fun v17 hv17 => ?_)
            have tv17 := i_cmpT hv17
            clear hv17
            refine wa_if_lt o_X4_lineOf_161 (by decide) (fun h18 => ?_) (fun h18 => ?_)
            · refine wa_bipush (v := 27) (by decide) ?_
              refine wa_goto o_X4_lineOf_167 (by decide) ?_
              refine wa_ireturn rfl rfl ?_
              exact ⟨_, rfl, Fs15, trivial⟩
            · refine wa_bipush (v := 26) (by decide) ?_
              refine wa_goto o_X4_lineOf_167 (by decide) ?_
              refine wa_ireturn rfl rfl ?_
              exact ⟨_, rfl, Fs15, trivial⟩
        · refine wa_iconst (v := 1) (by decide) ?_
          refine wa_goto o_X4_lineOf_124 (by decide) ?_
          refine wa_ior ?_
          refine wa_rw (bI_or (a := (gb s1 25 7)) (b := true) rfl rfl) ?_
          refine wa_putz ((gb s1 25 7) || true) (rfl) ck_4 fl_4_61 ly_25 (fun s19 hs19 => ?_)
          have Fs19 : Fm [25, 28] [] σ s19 := by rw [hs19]; exact Fm.sb Fs1 rfl
          refine wa_aload_n (i := 0) rfl rfl ?_
          refine wa_getr ck_4 fl_4_19 ly_25 rf_25_3 ?_
          refine wa_iconst (v := 4) (by decide) ?_
          refine wa_lload rfl ?_
          refine wa_l2i ?_
          refine wa_top (fun v20 hv20 => ?_)
          clear hv20
          refine wa_iast ly_28 (by ((try simp only [vp_in_iff, Int32.lt_iff_toInt_lt, Int32.le_iff_toInt_le, ← Int32.toInt_inj, Int32.reduceToInt, n_1, n_2, n_8, Int32.toNatClampNeg, Int64.lt_iff_toInt_lt, Int64.le_iff_toInt_le, ← Int64.toInt_inj, Int64.reduceToInt, Int32.toInt_toInt64, lg_cmp_ge, lg_cmp_le, lg_cmp_gt, lg_cmp_lt, lg_cmp_eq, Bool.false_eq_true, Bool.true_eq_false, reduceCtorEq, false_iff, true_iff, iff_true, iff_false, and_true, true_and, and_false, false_and, reduceIte, ite_true, ite_false, eq_self] at *)) <;> omega) (fun s21 hs21 => ?_)
          have Fs21 : Fm [25, 28] [] σ s21 := by rw [hs21]; exact Fm.si Fs19 rfl
          refine wa_aload_n (i := 0) rfl rfl ?_
          refine wa_getr ck_4 fl_4_19 ly_25 rf_25_3 ?_
          refine wa_iconst (v := 5) (by decide) ?_
          refine wa_iconst (v := 0) (by decide) ?_
          refine wa_iast ly_28 (by ((try simp only [vp_in_iff, Int32.lt_iff_toInt_lt, Int32.le_iff_toInt_le, ← Int32.toInt_inj, Int32.reduceToInt, n_1, n_2, n_8, Int32.toNatClampNeg, Int64.lt_iff_toInt_lt, Int64.le_iff_toInt_le, ← Int64.toInt_inj, Int64.reduceToInt, Int32.toInt_toInt64, lg_cmp_ge, lg_cmp_le, lg_cmp_gt, lg_cmp_lt, lg_cmp_eq, Bool.false_eq_true, Bool.true_eq_false, reduceCtorEq, false_iff, true_iff, iff_true, iff_false, and_true, true_and, and_false, false_and, reduceIte, ite_true, ite_false, eq_self] at *)) <;> omega) (fun s22 hs22 => ?_)
          have Fs22 : Fm [25, 28] [] σ s22 := by rw [hs22]; exact Fm.si Fs21 rfl
          refine wa_iload rfl ?_
          refine wa_if_eq o_X4_lineOf_166 (by decide) (fun h23 => ?_) (fun h23 => ?_)
          · replace h23 := bI_f (b := l4) (rfl) h23
            refine wa_iconst (v := (-1)) (by decide) ?_
            refine wa_ireturn rfl rfl ?_
            exact ⟨_, rfl, Fs22, trivial⟩
          · replace h23 := bI_t (b := l4) (rfl) h23
            refine wa_lload rfl ?_
            refine wa_lconst (v := 0) (by decide) ?_
            refine wa_lcmp ?_
            refine wa_top (fun v24 hv24 => ?_)
            have tv24 := i_cmpT hv24
            clear hv24
            refine wa_if_lt o_X4_lineOf_161 (by decide) (fun h25 => ?_) (fun h25 => ?_)
            · refine wa_bipush (v := 27) (by decide) ?_
              refine wa_goto o_X4_lineOf_167 (by decide) ?_
              refine wa_ireturn rfl rfl ?_
              exact ⟨_, rfl, Fs22, trivial⟩
            · refine wa_bipush (v := 26) (by decide) ?_
              refine wa_goto o_X4_lineOf_167 (by decide) ?_
              refine wa_ireturn rfl rfl ?_
              exact ⟨_, rfl, Fs22, trivial⟩
      · have mh4 := nle_mx h4
        refine wa_iload_n (i := 2) rfl rfl ?_
        refine wa_i2l ?_
        refine wa_aload_n (i := 0) rfl rfl ?_
        refine wa_getr ck_4 fl_4_11 ly_25 rf_25_1 ?_
        refine wa_iload_n (i := 1) rfl rfl ?_
        refine wa_iload rfl ?_
        refine wa_iadd ?_
        refine wa_top (fun v26 hv26 => ?_)
        have tv26 := i_addT hv26
        clear hv26
        refine wa_lald ly_26 (by ((try simp only [vp_in_iff, Int32.lt_iff_toInt_lt, Int32.le_iff_toInt_le, ← Int32.toInt_inj, Int32.reduceToInt, n_1, n_2, n_8, Int32.toNatClampNeg, Int64.lt_iff_toInt_lt, Int64.le_iff_toInt_le, ← Int64.toInt_inj, Int64.reduceToInt, Int32.toInt_toInt64, lg_cmp_ge, lg_cmp_le, lg_cmp_gt, lg_cmp_lt, lg_cmp_eq, Bool.false_eq_true, Bool.true_eq_false, reduceCtorEq, false_iff, true_iff, iff_true, iff_false, and_true, true_and, and_false, false_and, reduceIte, ite_true, ite_false, eq_self] at *)) <;> omega) ?_
        refine wa_lmul ?_
        refine wa_topl (fun v27 hv27 => ?_)
        clear hv27
        refine wa_lstoreD (lv' := [(6, .long v27), (0, .ref 25), (1, .int a0), (2, .int a1), (3, .int a2), (4, .int (bI l4)), (5, .int l5)]) (by decide) rfl ?_
        refine wa_aload_n (i := 0) rfl rfl ?_
        refine wa_dup rfl ?_
        refine wa_getz ck_4 fl_4_61 ly_25 ?_
        refine wa_lload rfl ?_
        refine wa_absL zs (allW_in (kT_5 _ (List.mem_of_getElem? (i := 49) rfl)) rfl) (Nat.le_of_ble_eq_true rfl) ?_
        refine wa_topl (fun v28 hv28 => ?_)
        have tv28 := i_absL hv28
        clear hv28
        refine wa_ldc2 (v := (20)) (allW_in (kT_5 _ (List.mem_of_getElem? (i := 52) rfl)) rfl) ?_
        refine wa_lcmp ?_
        refine wa_top (fun v29 hv29 => ?_)
        have tv29 := i_cmpT hv29
        clear hv29
        refine wa_if_le o_X4_lineOf_47 (by decide) (fun h30 => ?_) (fun h30 => ?_)
        · refine wa_iconst (v := 0) (by decide) ?_
          refine wa_ior ?_
          refine wa_rw (bI_or (a := (gb s1 25 7)) (b := false) rfl rfl) ?_
          refine wa_putz ((gb s1 25 7) || false) (rfl) ck_4 fl_4_61 ly_25 (fun s31 hs31 => ?_)
          have Fs31 : Fm [25, 28] [] σ s31 := by rw [hs31]; exact Fm.sb Fs1 rfl
          refine wa_iload rfl ?_
          refine wa_lload rfl ?_
          refine wa_lconst (v := 0) (by decide) ?_
          refine wa_lcmp ?_
          refine wa_top (fun v32 hv32 => ?_)
          have tv32 := i_cmpT hv32
          clear hv32
          refine wa_if_ne o_X4_lineOf_65 (by decide) (fun h33 => ?_) (fun h33 => ?_)
          · refine wa_iconst (v := 0) (by decide) ?_
            refine wa_iand ?_
            refine wa_rw (bI_and (a := l4) (b := false) rfl rfl) ?_
            refine wa_istoreD (lv' := [(4, .int (bI (l4 && false))), (6, .long v27), (0, .ref 25), (1, .int a0), (2, .int a1), (3, .int a2), (5, .int l5)]) (by decide) rfl ?_
            refine wa_aload_n (i := 0) rfl rfl ?_
            refine wa_getr ck_4 fl_4_19 ly_25 rf_25_3 ?_
            refine wa_iload rfl ?_
            refine wa_lload rfl ?_
            refine wa_l2i ?_
            refine wa_top (fun v34 hv34 => ?_)
            clear hv34
            refine wa_iast ly_28 (by ((try simp only [vp_in_iff, Int32.lt_iff_toInt_lt, Int32.le_iff_toInt_le, ← Int32.toInt_inj, Int32.reduceToInt, n_1, n_2, n_8, Int32.toNatClampNeg, Int64.lt_iff_toInt_lt, Int64.le_iff_toInt_le, ← Int64.toInt_inj, Int64.reduceToInt, Int32.toInt_toInt64, lg_cmp_ge, lg_cmp_le, lg_cmp_gt, lg_cmp_lt, lg_cmp_eq, Bool.false_eq_true, Bool.true_eq_false, reduceCtorEq, false_iff, true_iff, iff_true, iff_false, and_true, true_and, and_false, false_and, reduceIte, ite_true, ite_false, eq_self] at *)) <;> omega) (fun s35 hs35 => ?_)
            have Fs35 : Fm [25, 28] [] σ s35 := by rw [hs35]; exact Fm.si Fs31 rfl
            refine wa_iinc (v := (1)) (lv' := fun y36 => [(5, .int y36), (4, .int (bI (l4 && false))), (6, .long v27), (0, .ref 25), (1, .int a0), (2, .int a1), (3, .int a2)]) (by decide) rfl (by decide) (fun _ => rfl) (fun y36 hy36 => ?_)
            have ty36 := i_addT hy36.symm
            clear hy36
            refine wa_goto o_X4_lineOf_6 (by decide) ?_
            refine wa_pick [3, 4, 5, 6, 1, 0] rfl ?_
            exact ih2 _ (by ((try simp only [vp_in_iff, Int32.lt_iff_toInt_lt, Int32.le_iff_toInt_le, ← Int32.toInt_inj, Int32.reduceToInt, n_1, n_2, n_8, Int32.toNatClampNeg, Int64.lt_iff_toInt_lt, Int64.le_iff_toInt_le, ← Int64.toInt_inj, Int64.reduceToInt, Int32.toInt_toInt64, lg_cmp_ge, lg_cmp_le, lg_cmp_gt, lg_cmp_lt, lg_cmp_eq, Bool.false_eq_true, Bool.true_eq_false, reduceCtorEq, false_iff, true_iff, iff_true, iff_false, and_true, true_and, and_false, false_and, reduceIte, ite_true, ite_false, eq_self] at *)) <;> omega) _ _ _ ⟨Fs35, (by ((try simp only [vp_in_iff, Int32.lt_iff_toInt_lt, Int32.le_iff_toInt_le, ← Int32.toInt_inj, Int32.reduceToInt, n_1, n_2, n_8, Int32.toNatClampNeg, Int64.lt_iff_toInt_lt, Int64.le_iff_toInt_le, ← Int64.toInt_inj, Int64.reduceToInt, Int32.toInt_toInt64, lg_cmp_ge, lg_cmp_le, lg_cmp_gt, lg_cmp_lt, lg_cmp_eq, Bool.false_eq_true, Bool.true_eq_false, reduceCtorEq, false_iff, true_iff, iff_true, iff_false, and_true, true_and, and_false, false_and, reduceIte, ite_true, ite_false, eq_self] at *)) <;> omega), trivial⟩ rfl
          · refine wa_iconst (v := 1) (by decide) ?_
            refine wa_goto o_X4_lineOf_66 (by decide) ?_
            refine wa_iand ?_
            refine wa_rw (bI_and (a := l4) (b := true) rfl rfl) ?_
            refine wa_istoreD (lv' := [(4, .int (bI (l4 && true))), (6, .long v27), (0, .ref 25), (1, .int a0), (2, .int a1), (3, .int a2), (5, .int l5)]) (by decide) rfl ?_
            refine wa_aload_n (i := 0) rfl rfl ?_
            refine wa_getr ck_4 fl_4_19 ly_25 rf_25_3 ?_
            refine wa_iload rfl ?_
            refine wa_lload rfl ?_
            refine wa_l2i ?_
            refine wa_top (fun v37 hv37 => ?_)
            clear hv37
            refine wa_iast ly_28 (by ((try simp only [vp_in_iff, Int32.lt_iff_toInt_lt, Int32.le_iff_toInt_le, ← Int32.toInt_inj, Int32.reduceToInt, n_1, n_2, n_8, Int32.toNatClampNeg, Int64.lt_iff_toInt_lt, Int64.le_iff_toInt_le, ← Int64.toInt_inj, Int64.reduceToInt, Int32.toInt_toInt64, lg_cmp_ge, lg_cmp_le, lg_cmp_gt, lg_cmp_lt, lg_cmp_eq, Bool.false_eq_true, Bool.true_eq_false, reduceCtorEq, false_iff, true_iff, iff_true, iff_false, and_true, true_and, and_false, false_and, reduceIte, ite_true, ite_false, eq_self] at *)) <;> omega) (fun s38 hs38 => ?_)
            have Fs38 : Fm [25, 28] [] σ s38 := by rw [hs38]; exact Fm.si Fs31 rfl
            refine wa_iinc (v := (1)) (lv' := fun y39 => [(5, .int y39), (4, .int (bI (l4 && true))), (6, .long v27), (0, .ref 25), (1, .int a0), (2, .int a1), (3, .int a2)]) (by decide) rfl (by decide) (fun _ => rfl) (fun y39 hy39 => ?_)
            have ty39 := i_addT hy39.symm
            clear hy39
            refine wa_goto o_X4_lineOf_6 (by decide) ?_
            refine wa_pick [3, 4, 5, 6, 1, 0] rfl ?_
            exact ih2 _ (by ((try simp only [vp_in_iff, Int32.lt_iff_toInt_lt, Int32.le_iff_toInt_le, ← Int32.toInt_inj, Int32.reduceToInt, n_1, n_2, n_8, Int32.toNatClampNeg, Int64.lt_iff_toInt_lt, Int64.le_iff_toInt_le, ← Int64.toInt_inj, Int64.reduceToInt, Int32.toInt_toInt64, lg_cmp_ge, lg_cmp_le, lg_cmp_gt, lg_cmp_lt, lg_cmp_eq, Bool.false_eq_true, Bool.true_eq_false, reduceCtorEq, false_iff, true_iff, iff_true, iff_false, and_true, true_and, and_false, false_and, reduceIte, ite_true, ite_false, eq_self] at *)) <;> omega) _ _ _ ⟨Fs38, (by ((try simp only [vp_in_iff, Int32.lt_iff_toInt_lt, Int32.le_iff_toInt_le, ← Int32.toInt_inj, Int32.reduceToInt, n_1, n_2, n_8, Int32.toNatClampNeg, Int64.lt_iff_toInt_lt, Int64.le_iff_toInt_le, ← Int64.toInt_inj, Int64.reduceToInt, Int32.toInt_toInt64, lg_cmp_ge, lg_cmp_le, lg_cmp_gt, lg_cmp_lt, lg_cmp_eq, Bool.false_eq_true, Bool.true_eq_false, reduceCtorEq, false_iff, true_iff, iff_true, iff_false, and_true, true_and, and_false, false_and, reduceIte, ite_true, ite_false, eq_self] at *)) <;> omega), trivial⟩ rfl
        · refine wa_iconst (v := 1) (by decide) ?_
          refine wa_goto o_X4_lineOf_48 (by decide) ?_
          refine wa_ior ?_
          refine wa_rw (bI_or (a := (gb s1 25 7)) (b := true) rfl rfl) ?_
          refine wa_putz ((gb s1 25 7) || true) (rfl) ck_4 fl_4_61 ly_25 (fun s40 hs40 => ?_)
          have Fs40 : Fm [25, 28] [] σ s40 := by rw [hs40]; exact Fm.sb Fs1 rfl
          refine wa_iload rfl ?_
          refine wa_lload rfl ?_
          refine wa_lconst (v := 0) (by decide) ?_
          refine wa_lcmp ?_
          refine wa_top (fun v41 hv41 => ?_)
          have tv41 := i_cmpT hv41
          clear hv41
          refine wa_if_ne o_X4_lineOf_65 (by decide) (fun h42 => ?_) (fun h42 => ?_)
          · refine wa_iconst (v := 0) (by decide) ?_
            refine wa_iand ?_
            refine wa_rw (bI_and (a := l4) (b := false) rfl rfl) ?_
            refine wa_istoreD (lv' := [(4, .int (bI (l4 && false))), (6, .long v27), (0, .ref 25), (1, .int a0), (2, .int a1), (3, .int a2), (5, .int l5)]) (by decide) rfl ?_
            refine wa_aload_n (i := 0) rfl rfl ?_
            refine wa_getr ck_4 fl_4_19 ly_25 rf_25_3 ?_
            refine wa_iload rfl ?_
            refine wa_lload rfl ?_
            refine wa_l2i ?_
            refine wa_top (fun v43 hv43 => ?_)
            clear hv43
            refine wa_iast ly_28 (by ((try simp only [vp_in_iff, Int32.lt_iff_toInt_lt, Int32.le_iff_toInt_le, ← Int32.toInt_inj, Int32.reduceToInt, n_1, n_2, n_8, Int32.toNatClampNeg, Int64.lt_iff_toInt_lt, Int64.le_iff_toInt_le, ← Int64.toInt_inj, Int64.reduceToInt, Int32.toInt_toInt64, lg_cmp_ge, lg_cmp_le, lg_cmp_gt, lg_cmp_lt, lg_cmp_eq, Bool.false_eq_true, Bool.true_eq_false, reduceCtorEq, false_iff, true_iff, iff_true, iff_false, and_true, true_and, and_false, false_and, reduceIte, ite_true, ite_false, eq_self] at *)) <;> omega) (fun s44 hs44 => ?_)
            have Fs44 : Fm [25, 28] [] σ s44 := by rw [hs44]; exact Fm.si Fs40 rfl
            refine wa_iinc (v := (1)) (lv' := fun y45 => [(5, .int y45), (4, .int (bI (l4 && false))), (6, .long v27), (0, .ref 25), (1, .int a0), (2, .int a1), (3, .int a2)]) (by decide) rfl (by decide) (fun _ => rfl) (fun y45 hy45 => ?_)
            have ty45 := i_addT hy45.symm
            clear hy45
            refine wa_goto o_X4_lineOf_6 (by decide) ?_
            refine wa_pick [3, 4, 5, 6, 1, 0] rfl ?_
            exact ih2 _ (by ((try simp only [vp_in_iff, Int32.lt_iff_toInt_lt, Int32.le_iff_toInt_le, ← Int32.toInt_inj, Int32.reduceToInt, n_1, n_2, n_8, Int32.toNatClampNeg, Int64.lt_iff_toInt_lt, Int64.le_iff_toInt_le, ← Int64.toInt_inj, Int64.reduceToInt, Int32.toInt_toInt64, lg_cmp_ge, lg_cmp_le, lg_cmp_gt, lg_cmp_lt, lg_cmp_eq, Bool.false_eq_true, Bool.true_eq_false, reduceCtorEq, false_iff, true_iff, iff_true, iff_false, and_true, true_and, and_false, false_and, reduceIte, ite_true, ite_false, eq_self] at *)) <;> omega) _ _ _ ⟨Fs44, (by ((try simp only [vp_in_iff, Int32.lt_iff_toInt_lt, Int32.le_iff_toInt_le, ← Int32.toInt_inj, Int32.reduceToInt, n_1, n_2, n_8, Int32.toNatClampNeg, Int64.lt_iff_toInt_lt, Int64.le_iff_toInt_le, ← Int64.toInt_inj, Int64.reduceToInt, Int32.toInt_toInt64, lg_cmp_ge, lg_cmp_le, lg_cmp_gt, lg_cmp_lt, lg_cmp_eq, Bool.false_eq_true, Bool.true_eq_false, reduceCtorEq, false_iff, true_iff, iff_true, iff_false, and_true, true_and, and_false, false_and, reduceIte, ite_true, ite_false, eq_self] at *)) <;> omega), trivial⟩ rfl
          · refine wa_iconst (v := 1) (by decide) ?_
            refine wa_goto o_X4_lineOf_66 (by decide) ?_
            refine wa_iand ?_
            refine wa_rw (bI_and (a := l4) (b := true) rfl rfl) ?_
            refine wa_istoreD (lv' := [(4, .int (bI (l4 && true))), (6, .long v27), (0, .ref 25), (1, .int a0), (2, .int a1), (3, .int a2), (5, .int l5)]) (by decide) rfl ?_
            refine wa_aload_n (i := 0) rfl rfl ?_
            refine wa_getr ck_4 fl_4_19 ly_25 rf_25_3 ?_
            refine wa_iload rfl ?_
            refine wa_lload rfl ?_
            refine wa_l2i ?_
            refine wa_top (fun v46 hv46 => ?_)
            clear hv46
            refine wa_iast ly_28 (by ((try simp only [vp_in_iff, Int32.lt_iff_toInt_lt, Int32.le_iff_toInt_le, ← Int32.toInt_inj, Int32.reduceToInt, n_1, n_2, n_8, Int32.toNatClampNeg, Int64.lt_iff_toInt_lt, Int64.le_iff_toInt_le, ← Int64.toInt_inj, Int64.reduceToInt, Int32.toInt_toInt64, lg_cmp_ge, lg_cmp_le, lg_cmp_gt, lg_cmp_lt, lg_cmp_eq, Bool.false_eq_true, Bool.true_eq_false, reduceCtorEq, false_iff, true_iff, iff_true, iff_false, and_true, true_and, and_false, false_and, reduceIte, ite_true, ite_false, eq_self] at *)) <;> omega) (fun s47 hs47 => ?_)
            have Fs47 : Fm [25, 28] [] σ s47 := by rw [hs47]; exact Fm.si Fs40 rfl
            refine wa_iinc (v := (1)) (lv' := fun y48 => [(5, .int y48), (4, .int (bI (l4 && true))), (6, .long v27), (0, .ref 25), (1, .int a0), (2, .int a1), (3, .int a2)]) (by decide) rfl (by decide) (fun _ => rfl) (fun y48 hy48 => ?_)
            have ty48 := i_addT hy48.symm
            clear hy48
            refine wa_goto o_X4_lineOf_6 (by decide) ?_
            refine wa_pick [3, 4, 5, 6, 1, 0] rfl ?_
            exact ih2 _ (by ((try simp only [vp_in_iff, Int32.lt_iff_toInt_lt, Int32.le_iff_toInt_le, ← Int32.toInt_inj, Int32.reduceToInt, n_1, n_2, n_8, Int32.toNatClampNeg, Int64.lt_iff_toInt_lt, Int64.le_iff_toInt_le, ← Int64.toInt_inj, Int64.reduceToInt, Int32.toInt_toInt64, lg_cmp_ge, lg_cmp_le, lg_cmp_gt, lg_cmp_lt, lg_cmp_eq, Bool.false_eq_true, Bool.true_eq_false, reduceCtorEq, false_iff, true_iff, iff_true, iff_false, and_true, true_and, and_false, false_and, reduceIte, ite_true, ite_false, eq_self] at *)) <;> omega) _ _ _ ⟨Fs47, (by ((try simp only [vp_in_iff, Int32.lt_iff_toInt_lt, Int32.le_iff_toInt_le, ← Int32.toInt_inj, Int32.reduceToInt, n_1, n_2, n_8, Int32.toNatClampNeg, Int64.lt_iff_toInt_lt, Int64.le_iff_toInt_le, ← Int64.toInt_inj, Int64.reduceToInt, Int32.toInt_toInt64, lg_cmp_ge, lg_cmp_le, lg_cmp_gt, lg_cmp_lt, lg_cmp_eq, Bool.false_eq_true, Bool.true_eq_false, reduceCtorEq, false_iff, true_iff, iff_true, iff_false, and_true, true_and, and_false, false_and, reduceIte, ite_true, ite_false, eq_self] at *)) <;> omega), trivial⟩ rfl
  exact hi3 _ _ _ _ ⟨(Fm.rf [25, 28] [] σ), (by ((try simp only [vp_in_iff, Int32.lt_iff_toInt_lt, Int32.le_iff_toInt_le, ← Int32.toInt_inj, Int32.reduceToInt, n_1, n_2, n_8, Int32.toNatClampNeg, Int64.lt_iff_toInt_lt, Int64.le_iff_toInt_le, ← Int64.toInt_inj, Int64.reduceToInt, Int32.toInt_toInt64, lg_cmp_ge, lg_cmp_le, lg_cmp_gt, lg_cmp_lt, lg_cmp_eq, Bool.false_eq_true, Bool.true_eq_false, reduceCtorEq, false_iff, true_iff, iff_true, iff_false, and_true, true_and, and_false, false_and, reduceIte, ite_true, ite_false, eq_self] at *)) <;> omega), trivial⟩ rfl
set_option maxHeartbeats 4000000 in
theorem sp_X4_emit (G : kG9) {d : Nat} (hd : 0 ≤ d) (σ : St) (a0 : Int32) : Ct G M_X4_emit d [.ref 25, .int a0] σ (fun r σ' => Fm [12, 25] [] σ σ' ∧ True) := by
  refine wa_start (by decide) rfl (Nat.le_of_ble_eq_true rfl) (lv := [(0, .ref 25), (1, .int a0)]) rfl o_X4_emit_0 rfl ?_
  have ua0 := Int32.toInt_lt a0
  have wa0 := Int32.le_toInt a0
  refine wa_aload_n (i := 0) rfl rfl ?_
  refine wa_geti ck_4 fl_4_33 ly_25 ?_
  refine wa_if_lt o_X4_emit_65 (by decide) (fun h1 => ?_) (fun h1 => ?_)
  · refine wa_return (st := []) rfl rfl ?_
    exact ⟨(Fm.rf [12, 25] [] σ), trivial⟩
  · refine wa_aload_n (i := 0) rfl rfl ?_
    refine wa_geti ck_4 fl_4_33 ly_25 ?_
    refine wa_bipush (v := 26) (by decide) ?_
    refine wa_icmp_ge o_X4_emit_65 (by decide) (fun h2 => ?_) (fun h2 => ?_)
    · refine wa_return (st := []) rfl rfl ?_
      exact ⟨(Fm.rf [12, 25] [] σ), trivial⟩
    · have mh2 := nle_mx h2
      refine wa_aload_n (i := 0) rfl rfl ?_
      refine wa_geti ck_4 fl_4_86 ly_25 ?_
      refine wa_if_lt o_X4_emit_65 (by decide) (fun h3 => ?_) (fun h3 => ?_)
      · refine wa_return (st := []) rfl rfl ?_
        exact ⟨(Fm.rf [12, 25] [] σ), trivial⟩
      · refine wa_aload_n (i := 0) rfl rfl ?_
        refine wa_geti ck_4 fl_4_86 ly_25 ?_
        refine wa_sipush (v := 1024) (by decide) ?_
        refine wa_icmp_ge o_X4_emit_65 (by decide) (fun h4 => ?_) (fun h4 => ?_)
        · refine wa_return (st := []) rfl rfl ?_
          exact ⟨(Fm.rf [12, 25] [] σ), trivial⟩
        · have mh4 := nle_mx h4
          refine wa_aload_n (i := 0) rfl rfl ?_
          refine wa_getr ck_4 fl_4_25 ly_25 rf_25_0 ?_
          refine wa_getr ck_2 fl_4_118 ly_7 rf_7_4 ?_
          refine wa_aload_n (i := 0) rfl rfl ?_
          refine wa_geti ck_4 fl_4_33 ly_25 ?_
          refine wa_sipush (v := 1024) (by decide) ?_
          refine wa_imul ?_
          refine wa_top (fun v5 hv5 => ?_)
          have tv5 := i_mulT hv5
          clear hv5
          refine wa_aload_n (i := 0) rfl rfl ?_
          refine wa_geti ck_4 fl_4_86 ly_25 ?_
          refine wa_iadd ?_
          refine wa_top (fun v6 hv6 => ?_)
          have tv6 := i_addT hv6
          clear hv6
          refine wa_iload_n (i := 1) rfl rfl ?_
          refine wa_iast ly_12 (by ((try simp only [vp_in_iff, Int32.lt_iff_toInt_lt, Int32.le_iff_toInt_le, ← Int32.toInt_inj, Int32.reduceToInt, n_1, n_2, n_8, Int32.toNatClampNeg, Int64.lt_iff_toInt_lt, Int64.le_iff_toInt_le, ← Int64.toInt_inj, Int64.reduceToInt, Int32.toInt_toInt64, lg_cmp_ge, lg_cmp_le, lg_cmp_gt, lg_cmp_lt, lg_cmp_eq, Bool.false_eq_true, Bool.true_eq_false, reduceCtorEq, false_iff, true_iff, iff_true, iff_false, and_true, true_and, and_false, false_and, reduceIte, ite_true, ite_false, eq_self] at *)) <;> omega) (fun s7 hs7 => ?_)
          have Fs7 : Fm [12, 25] [] σ s7 := by rw [hs7]; exact Fm.si (Fm.rf [12, 25] [] σ) rfl
          refine wa_aload_n (i := 0) rfl rfl ?_
          refine wa_dup rfl ?_
          refine wa_geti ck_4 fl_4_86 ly_25 ?_
          refine wa_rw (nxq_gi_si hs7 (by decide)) ?_
          refine wa_iconst (v := 1) (by decide) ?_
          refine wa_iadd ?_
          refine wa_top (fun v8 hv8 => ?_)
          have tv8 := i_addT hv8
          clear hv8
          refine wa_puti ck_4 fl_4_86 ly_25 (fun s9 hs9 => ?_)
          have Fs9 : Fm [12, 25] [] σ s9 := by rw [hs9]; exact Fm.si Fs7 rfl
          refine wa_return (st := []) rfl rfl ?_
          exact ⟨Fs9, trivial⟩
set_option maxHeartbeats 4000000 in
theorem sp_X4_add (G : kG9) {d : Nat} (hd : 1 ≤ d) (σ : St) (a0 : Int32) : Ct G M_X4_add d [.ref 25, .int a0] σ (fun r σ' => Fm [7, 8, 9, 10, 11, 12, 13, 14, 15, 25] [] σ σ' ∧ True) := by
  refine wa_start (by decide) rfl (Nat.le_of_ble_eq_true rfl) (lv := [(0, .ref 25), (1, .int a0)]) rfl o_X4_add_0 rfl ?_
  have ua0 := Int32.toInt_lt a0
  have wa0 := Int32.le_toInt a0
  refine wa_iload_n (i := 1) rfl rfl ?_
  refine wa_iconst (v := (-1)) (by decide) ?_
  refine wa_icmp_eq o_X4_add_34 (by decide) (fun h1 => ?_) (fun h1 => ?_)
  · refine wa_aload_n (i := 0) rfl rfl ?_
    refine wa_getz ck_4 fl_4_61 ly_25 ?_
    refine wa_if_ne o_X4_add_89 (by decide) (fun h2 => ?_) (fun h2 => ?_)
    · replace h2 := bI_t (b := (gb σ 25 7)) (rfl) h2
      refine wa_return (st := []) rfl rfl ?_
      exact ⟨(Fm.rf [7, 8, 9, 10, 11, 12, 13, 14, 15, 25] [] σ), trivial⟩
    · replace h2 := bI_f (b := (gb σ 25 7)) (rfl) h2
      refine wa_aload_n (i := 0) rfl rfl ?_
      refine wa_getz ck_4 fl_4_89 ly_25 ?_
      refine wa_if_ne o_X4_add_89 (by decide) (fun h3 => ?_) (fun h3 => ?_)
      · replace h3 := bI_t (b := (gb σ 25 8)) (rfl) h3
        refine wa_return (st := []) rfl rfl ?_
        exact ⟨(Fm.rf [7, 8, 9, 10, 11, 12, 13, 14, 15, 25] [] σ), trivial⟩
      · replace h3 := bI_f (b := (gb σ 25 8)) (rfl) h3
        refine wa_aload_n (i := 0) rfl rfl ?_
        refine wa_getr ck_4 fl_4_25 ly_25 rf_25_0 ?_
        refine wa_aload_n (i := 0) rfl rfl ?_
        refine wa_getr ck_4 fl_4_19 ly_25 rf_25_3 ?_
        refine wa_Vi (d9 := d - 1) [.ref 28] [] (sp_X2_poolNumber G (d := d - 1) (by omega) σ ) (rfl) rfl rfl (zr (by omega)) mk_X2_poolNumber ly_7 ml_4_190 (Nat.le_of_ble_eq_true rfl) (fun x5 s4 hs4 => ?_)
        obtain ⟨fs4, -⟩ := pI hs4
        have Fs4 : Fm [7, 8, 9, 10, 11, 12, 13, 14, 15, 25] [] σ s4 := Fm.tr (Fm.rf [7, 8, 9, 10, 11, 12, 13, 14, 15, 25] [] σ) (Fm.ofSm fs4 rfl)
        refine wa_istore_nD (lv' := [(2, .int x5), (0, .ref 25), (1, .int a0)]) (i := 2) rfl (by decide) rfl ?_
        refine wa_aload_n (i := 0) rfl rfl ?_
        refine wa_aload_n (i := 0) rfl rfl ?_
        refine wa_getr ck_4 fl_4_25 ly_25 rf_25_0 ?_
        refine wa_aload_n (i := 0) rfl rfl ?_
        refine wa_geti ck_4 fl_4_33 ly_25 ?_
        refine wa_rw (Sm.gi fs4 5 (Or.inr (by decide))) ?_
        refine wa_iload_n (i := 2) rfl rfl ?_
        refine wa_Vi (d9 := d - 1) [.int _, .int _] [.ref 25] (sp_X2_addAtom G (d := d - 1) (by omega) s4 _ _) (rfl) rfl rfl (zr (by omega)) mk_X2_addAtom ly_7 ml_4_115 (Nat.le_of_ble_eq_true rfl) (fun x7 s6 hs6 => ?_)
        obtain ⟨bx7, ex7, fs6, -⟩ := pB hs6
        subst ex7
        have Fs6 : Fm [7, 8, 9, 10, 11, 12, 13, 14, 15, 25] [] σ s6 := Fm.tr Fs4 (Fm.ofSm fs6 rfl)
        refine wa_if_ne o_X4_add_80 (by decide) (fun h8 => ?_) (fun h8 => ?_)
        · replace h8 := bI_t (b := bx7) (rfl) h8
          refine wa_iconst (v := 0) (by decide) ?_
          refine wa_putz false (rfl) ck_4 fl_4_89 ly_25 (fun s9 hs9 => ?_)
          have Fs9 : Fm [7, 8, 9, 10, 11, 12, 13, 14, 15, 25] [] σ s9 := by rw [hs9]; exact Fm.sb Fs6 rfl
          refine wa_aload_n (i := 0) rfl rfl ?_
          refine wa_iload_n (i := 2) rfl rfl ?_
          refine wa_Vv (d9 := d - 1) [.int _] [] (sp_X4_emit G (d := d - 1) (by omega) s9 _) (rfl) rfl rfl (zr (by omega)) mk_X4_emit ly_25 ml_4_76 (Nat.le_of_ble_eq_true rfl) (fun s10 hs10 => ?_)
          obtain ⟨fs10, -⟩ := hs10
          have Fs10 : Fm [7, 8, 9, 10, 11, 12, 13, 14, 15, 25] [] σ s10 := Fm.tr Fs9 (Fm.wd fs10 rfl rfl)
          refine wa_return (st := []) rfl rfl ?_
          exact ⟨Fs10, trivial⟩
        · replace h8 := bI_f (b := bx7) (rfl) h8
          refine wa_iconst (v := 1) (by decide) ?_
          refine wa_goto o_X4_add_81 (by decide) ?_
          refine wa_putz true (rfl) ck_4 fl_4_89 ly_25 (fun s12 hs12 => ?_)
          have Fs12 : Fm [7, 8, 9, 10, 11, 12, 13, 14, 15, 25] [] σ s12 := by rw [hs12]; exact Fm.sb Fs6 rfl
          refine wa_aload_n (i := 0) rfl rfl ?_
          refine wa_iload_n (i := 2) rfl rfl ?_
          refine wa_Vv (d9 := d - 1) [.int _] [] (sp_X4_emit G (d := d - 1) (by omega) s12 _) (rfl) rfl rfl (zr (by omega)) mk_X4_emit ly_25 ml_4_76 (Nat.le_of_ble_eq_true rfl) (fun s13 hs13 => ?_)
          obtain ⟨fs13, -⟩ := hs13
          have Fs13 : Fm [7, 8, 9, 10, 11, 12, 13, 14, 15, 25] [] σ s13 := Fm.tr Fs12 (Fm.wd fs13 rfl rfl)
          refine wa_return (st := []) rfl rfl ?_
          exact ⟨Fs13, trivial⟩
  · refine wa_aload_n (i := 0) rfl rfl ?_
    refine wa_iload_n (i := 1) rfl rfl ?_
    refine wa_ineg ?_
    refine wa_top (fun v15 hv15 => ?_)
    have tv15 := i_negT hv15
    clear hv15
    refine wa_Vv (d9 := d - 1) [.int _] [] (sp_X4_emit G (d := d - 1) (by omega) σ _) (rfl) rfl rfl (zr (by omega)) mk_X4_emit ly_25 ml_4_76 (Nat.le_of_ble_eq_true rfl) (fun s16 hs16 => ?_)
    obtain ⟨fs16, -⟩ := hs16
    have Fs16 : Fm [7, 8, 9, 10, 11, 12, 13, 14, 15, 25] [] σ s16 := Fm.tr (Fm.rf [7, 8, 9, 10, 11, 12, 13, 14, 15, 25] [] σ) (Fm.wd fs16 rfl rfl)
    refine wa_aload_n (i := 0) rfl rfl ?_
    refine wa_dup rfl ?_
    refine wa_geti ck_4 fl_4_83 ly_25 ?_
    refine wa_iload_n (i := 1) rfl rfl ?_
    refine wa_bipush (v := 27) (by decide) ?_
    refine wa_icmp_ne o_X4_add_26 (by decide) (fun h18 => ?_) (fun h18 => ?_)
    · refine wa_iconst (v := 0) (by decide) ?_
      refine wa_ior ?_
      refine wa_top (fun v19 hv19 => ?_)
      clear hv19
      refine wa_puti ck_4 fl_4_83 ly_25 (fun s20 hs20 => ?_)
      have Fs20 : Fm [7, 8, 9, 10, 11, 12, 13, 14, 15, 25] [] σ s20 := by rw [hs20]; exact Fm.si Fs16 rfl
      refine wa_goto o_X4_add_89 (by decide) ?_
      refine wa_return (st := []) rfl rfl ?_
      exact ⟨Fs20, trivial⟩
    · refine wa_iconst (v := 1) (by decide) ?_
      refine wa_goto o_X4_add_27 (by decide) ?_
      refine wa_ior ?_
      refine wa_top (fun v21 hv21 => ?_)
      clear hv21
      refine wa_puti ck_4 fl_4_83 ly_25 (fun s22 hs22 => ?_)
      have Fs22 : Fm [7, 8, 9, 10, 11, 12, 13, 14, 15, 25] [] σ s22 := by rw [hs22]; exact Fm.si Fs16 rfl
      refine wa_goto o_X4_add_89 (by decide) ?_
      refine wa_return (st := []) rfl rfl ?_
      exact ⟨Fs22, trivial⟩
set_option maxHeartbeats 4000000 in
theorem sp_X4_copyForm (G : kG9) {d : Nat} (hd : 0 ≤ d) (σ : St) (a0 : Int32) (a1 : Int32) (p1 : 0 ≤ a0.toInt ∧ a0.toInt ≤ 1914) (p2 : 0 ≤ a1.toInt ∧ a1.toInt ≤ 1914) : Ct G M_X4_copyForm d [.ref 25, .int a0, .int a1] σ (fun r σ' => Fm [26] [] σ σ' ∧ True) := by
  refine wa_start (by decide) rfl (Nat.le_of_ble_eq_true rfl) (lv := [(0, .ref 25), (1, .int a0), (2, .int a1)]) rfl o_X4_copyForm_0 rfl ?_
  have ua0 := Int32.toInt_lt a0
  have wa0 := Int32.le_toInt a0
  have ua1 := Int32.toInt_lt a1
  have wa1 := Int32.le_toInt a1
  refine wa_iconst (v := 0) (by decide) ?_
  refine wa_istore_nD (lv' := [(3, .int 0), (0, .ref 25), (1, .int a0), (2, .int a1)]) (i := 3) rfl (by decide) rfl ?_
  refine wa_pick [1, 2, 3, 0] rfl ?_
  have hi3 : ∀ (n9_2 : Nat) (l3 : Int32) (s1 : St), ((Fm [26] [] σ s1) ∧ (0 ≤ l3.toInt) ∧ (True)) → (2147483647 - l3.toInt).toNat = n9_2 → WA G M_X4_copyForm (ZM G M_X4_copyForm d (fun r σ' => Fm [26] [] σ σ' ∧ True)) B_X4_copyForm_2 [(0, .ref 25), (1, .int a0), (2, .int a1), (3, .int l3)] [] s1 := by
    intro n9_2
    induction n9_2 using Nat.strongRecOn with
    | _ n9_2 ih2 =>
      intro l3 s1 i9 m9_2
      obtain ⟨Fs1, jhi3_0, -⟩ := i9
      have ul3 := Int32.toInt_lt l3
      have wl3 := Int32.le_toInt l3
      refine wa_iload_n (i := 3) rfl rfl ?_
      refine wa_bipush (v := 6) (by decide) ?_
      refine wa_icmp_ge o_X4_copyForm_30 (by decide) (fun h4 => ?_) (fun h4 => ?_)
      · refine wa_return (st := []) rfl rfl ?_
        exact ⟨Fs1, trivial⟩
      · have mh4 := nle_mx h4
        refine wa_aload_n (i := 0) rfl rfl ?_
        refine wa_getr ck_4 fl_4_11 ly_25 rf_25_1 ?_
        refine wa_iload_n (i := 2) rfl rfl ?_
        refine wa_iload_n (i := 3) rfl rfl ?_
        refine wa_iadd ?_
        refine wa_top (fun v5 hv5 => ?_)
        have tv5 := i_addT hv5
        clear hv5
        refine wa_aload_n (i := 0) rfl rfl ?_
        refine wa_getr ck_4 fl_4_11 ly_25 rf_25_1 ?_
        refine wa_iload_n (i := 1) rfl rfl ?_
        refine wa_iload_n (i := 3) rfl rfl ?_
        refine wa_iadd ?_
        refine wa_top (fun v6 hv6 => ?_)
        have tv6 := i_addT hv6
        clear hv6
        refine wa_lald ly_26 (by ((try simp only [vp_in_iff, Int32.lt_iff_toInt_lt, Int32.le_iff_toInt_le, ← Int32.toInt_inj, Int32.reduceToInt, n_1, n_2, n_8, Int32.toNatClampNeg, Int64.lt_iff_toInt_lt, Int64.le_iff_toInt_le, ← Int64.toInt_inj, Int64.reduceToInt, Int32.toInt_toInt64, lg_cmp_ge, lg_cmp_le, lg_cmp_gt, lg_cmp_lt, lg_cmp_eq, Bool.false_eq_true, Bool.true_eq_false, reduceCtorEq, false_iff, true_iff, iff_true, iff_false, and_true, true_and, and_false, false_and, reduceIte, ite_true, ite_false, eq_self] at *)) <;> omega) ?_
        refine wa_last ly_26 (by ((try simp only [vp_in_iff, Int32.lt_iff_toInt_lt, Int32.le_iff_toInt_le, ← Int32.toInt_inj, Int32.reduceToInt, n_1, n_2, n_8, Int32.toNatClampNeg, Int64.lt_iff_toInt_lt, Int64.le_iff_toInt_le, ← Int64.toInt_inj, Int64.reduceToInt, Int32.toInt_toInt64, lg_cmp_ge, lg_cmp_le, lg_cmp_gt, lg_cmp_lt, lg_cmp_eq, Bool.false_eq_true, Bool.true_eq_false, reduceCtorEq, false_iff, true_iff, iff_true, iff_false, and_true, true_and, and_false, false_and, reduceIte, ite_true, ite_false, eq_self] at *)) <;> omega) (fun s7 hs7 => ?_)
        have Fs7 : Fm [26] [] σ s7 := by rw [hs7]; exact Fm.sl Fs1 rfl
        refine wa_iinc (v := (1)) (lv' := fun y8 => [(3, .int y8), (0, .ref 25), (1, .int a0), (2, .int a1)]) (by decide) rfl (by decide) (fun _ => rfl) (fun y8 hy8 => ?_)
        have ty8 := i_addT hy8.symm
        clear hy8
        refine wa_goto o_X4_copyForm_2 (by decide) ?_
        refine wa_pick [1, 2, 3, 0] rfl ?_
        exact ih2 _ (by ((try simp only [vp_in_iff, Int32.lt_iff_toInt_lt, Int32.le_iff_toInt_le, ← Int32.toInt_inj, Int32.reduceToInt, n_1, n_2, n_8, Int32.toNatClampNeg, Int64.lt_iff_toInt_lt, Int64.le_iff_toInt_le, ← Int64.toInt_inj, Int64.reduceToInt, Int32.toInt_toInt64, lg_cmp_ge, lg_cmp_le, lg_cmp_gt, lg_cmp_lt, lg_cmp_eq, Bool.false_eq_true, Bool.true_eq_false, reduceCtorEq, false_iff, true_iff, iff_true, iff_false, and_true, true_and, and_false, false_and, reduceIte, ite_true, ite_false, eq_self] at *)) <;> omega) _ _ ⟨Fs7, (by ((try simp only [vp_in_iff, Int32.lt_iff_toInt_lt, Int32.le_iff_toInt_le, ← Int32.toInt_inj, Int32.reduceToInt, n_1, n_2, n_8, Int32.toNatClampNeg, Int64.lt_iff_toInt_lt, Int64.le_iff_toInt_le, ← Int64.toInt_inj, Int64.reduceToInt, Int32.toInt_toInt64, lg_cmp_ge, lg_cmp_le, lg_cmp_gt, lg_cmp_lt, lg_cmp_eq, Bool.false_eq_true, Bool.true_eq_false, reduceCtorEq, false_iff, true_iff, iff_true, iff_false, and_true, true_and, and_false, false_and, reduceIte, ite_true, ite_false, eq_self] at *)) <;> omega), trivial⟩ rfl
  exact hi3 _ _ _ ⟨(Fm.rf [26] [] σ), (by ((try simp only [vp_in_iff, Int32.lt_iff_toInt_lt, Int32.le_iff_toInt_le, ← Int32.toInt_inj, Int32.reduceToInt, n_1, n_2, n_8, Int32.toNatClampNeg, Int64.lt_iff_toInt_lt, Int64.le_iff_toInt_le, ← Int64.toInt_inj, Int64.reduceToInt, Int32.toInt_toInt64, lg_cmp_ge, lg_cmp_le, lg_cmp_gt, lg_cmp_lt, lg_cmp_eq, Bool.false_eq_true, Bool.true_eq_false, reduceCtorEq, false_iff, true_iff, iff_true, iff_false, and_true, true_and, and_false, false_and, reduceIte, ite_true, ite_false, eq_self] at *)) <;> omega), trivial⟩ rfl
set_option maxHeartbeats 4000000 in
theorem sp_X4_setTop (G : kG9) {d : Nat} (hd : 0 ≤ d) (σ : St) (a0 : Int32) (a1 : Int32) : Ct G M_X4_setTop d [.ref 25, .int a0, .int a1] σ (fun r σ' => Fm [27] [] σ σ' ∧ True) := by
  refine wa_start (by decide) rfl (Nat.le_of_ble_eq_true rfl) (lv := [(0, .ref 25), (1, .int a0), (2, .int a1)]) rfl o_X4_setTop_0 rfl ?_
  have ua0 := Int32.toInt_lt a0
  have wa0 := Int32.le_toInt a0
  have ua1 := Int32.toInt_lt a1
  have wa1 := Int32.le_toInt a1
  refine wa_iload_n (i := 1) rfl rfl ?_
  refine wa_if_lt o_X4_setTop_17 (by decide) (fun h1 => ?_) (fun h1 => ?_)
  · refine wa_return (st := []) rfl rfl ?_
    exact ⟨(Fm.rf [27] [] σ), trivial⟩
  · refine wa_iload_n (i := 1) rfl rfl ?_
    refine wa_bipush (v := 8) (by decide) ?_
    refine wa_icmp_ge o_X4_setTop_17 (by decide) (fun h2 => ?_) (fun h2 => ?_)
    · refine wa_return (st := []) rfl rfl ?_
      exact ⟨(Fm.rf [27] [] σ), trivial⟩
    · have mh2 := nle_mx h2
      refine wa_aload_n (i := 0) rfl rfl ?_
      refine wa_getr ck_4 fl_4_15 ly_25 rf_25_2 ?_
      refine wa_iload_n (i := 1) rfl rfl ?_
      refine wa_iload_n (i := 2) rfl rfl ?_
      refine wa_iast ly_27 (by ((try simp only [vp_in_iff, Int32.lt_iff_toInt_lt, Int32.le_iff_toInt_le, ← Int32.toInt_inj, Int32.reduceToInt, n_1, n_2, n_8, Int32.toNatClampNeg, Int64.lt_iff_toInt_lt, Int64.le_iff_toInt_le, ← Int64.toInt_inj, Int64.reduceToInt, Int32.toInt_toInt64, lg_cmp_ge, lg_cmp_le, lg_cmp_gt, lg_cmp_lt, lg_cmp_eq, Bool.false_eq_true, Bool.true_eq_false, reduceCtorEq, false_iff, true_iff, iff_true, iff_false, and_true, true_and, and_false, false_and, reduceIte, ite_true, ite_false, eq_self] at *)) <;> omega) (fun s3 hs3 => ?_)
      have Fs3 : Fm [27] [] σ s3 := by rw [hs3]; exact Fm.si (Fm.rf [27] [] σ) rfl
      refine wa_return (st := []) rfl rfl ?_
      exact ⟨Fs3, trivial⟩
set_option maxHeartbeats 4000000 in
theorem sp_X4_copyLevel (G : kG9) {d : Nat} (hd : 1 ≤ d) (σ : St) (a0 : Int32) : Ct G M_X4_copyLevel d [.ref 25, .int a0] σ (fun r σ' => Fm [26, 27] [] σ σ' ∧ True) := by
  refine wa_start (by decide) rfl (Nat.le_of_ble_eq_true rfl) (lv := [(0, .ref 25), (1, .int a0)]) rfl o_X4_copyLevel_0 rfl ?_
  have ua0 := Int32.toInt_lt a0
  have wa0 := Int32.le_toInt a0
  refine wa_aload_n (i := 0) rfl rfl ?_
  refine wa_iload_n (i := 1) rfl rfl ?_
  refine wa_Vi (d9 := d - 1) [.int _] [] (sp_X4_top G (d := d - 1) (by omega) σ _) (rfl) rfl rfl (zr (by omega)) mk_X4_top ly_25 ml_4_137 (Nat.le_of_ble_eq_true rfl) (fun x2 s1 hs1 => ?_)
  obtain ⟨zs1, -⟩ := pI hs1
  subst zs1
  refine wa_istore_nD (lv' := [(2, .int x2), (0, .ref 25), (1, .int a0)]) (i := 2) rfl (by decide) rfl ?_
  refine wa_iconst (v := 0) (by decide) ?_
  refine wa_istore_nD (lv' := [(3, .int 0), (2, .int x2), (0, .ref 25), (1, .int a0)]) (i := 3) rfl (by decide) rfl ?_
  refine wa_pick [2, 3, 1, 0] rfl ?_
  have hi5 : ∀ (n9_8 : Nat) (l3 : Int32) (s3 : St), ((Fm [26, 27] [] σ s3) ∧ (0 ≤ l3.toInt) ∧ (True)) → (2147483647 - l3.toInt).toNat = n9_8 → WA G M_X4_copyLevel (ZM G M_X4_copyLevel d (fun r σ' => Fm [26, 27] [] σ σ' ∧ True)) B_X4_copyLevel_8 [(0, .ref 25), (1, .int a0), (2, .int x2), (3, .int l3)] [] s3 := by
    intro n9_8
    induction n9_8 using Nat.strongRecOn with
    | _ n9_8 ih4 =>
      intro l3 s3 i9 m9_8
      obtain ⟨Fs3, jhi5_0, -⟩ := i9
      have ul3 := Int32.toInt_lt l3
      have wl3 := Int32.le_toInt l3
      refine wa_iload_n (i := 3) rfl rfl ?_
      refine wa_iload_n (i := 2) rfl rfl ?_
      refine wa_icmp_ge o_X4_copyLevel_35 (by decide) (fun h6 => ?_) (fun h6 => ?_)
      · refine wa_aload_n (i := 0) rfl rfl ?_
        refine wa_iload_n (i := 1) rfl rfl ?_
        refine wa_iconst (v := 1) (by decide) ?_
        refine wa_iadd ?_
        refine wa_top (fun v7 hv7 => ?_)
        have tv7 := i_addT hv7
        clear hv7
        refine wa_iload_n (i := 2) rfl rfl ?_
        refine wa_Vv (d9 := d - 1) [.int _, .int _] [] (sp_X4_setTop G (d := d - 1) (by omega) s3 _ _) (rfl) rfl rfl (zr (by omega)) mk_X4_setTop ly_25 ml_4_160 (Nat.le_of_ble_eq_true rfl) (fun s8 hs8 => ?_)
        obtain ⟨fs8, -⟩ := hs8
        have Fs8 : Fm [26, 27] [] σ s8 := Fm.tr Fs3 (Fm.wd fs8 rfl rfl)
        refine wa_return (st := []) rfl rfl ?_
        exact ⟨Fs8, trivial⟩
      · have mh6 := nle_mx h6
        refine wa_aload_n (i := 0) rfl rfl ?_
        refine wa_iload_n (i := 1) rfl rfl ?_
        refine wa_iload_n (i := 3) rfl rfl ?_
        refine wa_Si (d9 := d - 1) [.int _, .int _] [.ref 25] (sp_X4_form G (d := d - 1) (by omega) s3 _ _) (rfl) rfl rfl (zr (by omega)) mk_X4_form ml_4_95 (Nat.le_of_ble_eq_true rfl) (fun x11 s10 hs10 => ?_)
        obtain ⟨zs10, cx11_1, -⟩ := pI hs10
        subst zs10
        refine wa_iload_n (i := 1) rfl rfl ?_
        refine wa_iconst (v := 1) (by decide) ?_
        refine wa_iadd ?_
        refine wa_top (fun v12 hv12 => ?_)
        have tv12 := i_addT hv12
        clear hv12
        refine wa_iload_n (i := 3) rfl rfl ?_
        refine wa_Si (d9 := d - 1) [.int _, .int _] [.int x11, .ref 25] (sp_X4_form G (d := d - 1) (by omega) s3 _ _) (rfl) rfl rfl (zr (by omega)) mk_X4_form ml_4_95 (Nat.le_of_ble_eq_true rfl) (fun x14 s13 hs13 => ?_)
        obtain ⟨zs13, cx14_1, -⟩ := pI hs13
        subst zs13
        refine wa_Vv (d9 := d - 1) [.int _, .int _] [] (sp_X4_copyForm G (d := d - 1) (by omega) s3 _ _ (by ((try simp only [vp_in_iff, Int32.lt_iff_toInt_lt, Int32.le_iff_toInt_le, ← Int32.toInt_inj, Int32.reduceToInt, n_1, n_2, n_8, Int32.toNatClampNeg, Int64.lt_iff_toInt_lt, Int64.le_iff_toInt_le, ← Int64.toInt_inj, Int64.reduceToInt, Int32.toInt_toInt64, lg_cmp_ge, lg_cmp_le, lg_cmp_gt, lg_cmp_lt, lg_cmp_eq, Bool.false_eq_true, Bool.true_eq_false, reduceCtorEq, false_iff, true_iff, iff_true, iff_false, and_true, true_and, and_false, false_and, reduceIte, ite_true, ite_false, eq_self] at *)) <;> omega) (by ((try simp only [vp_in_iff, Int32.lt_iff_toInt_lt, Int32.le_iff_toInt_le, ← Int32.toInt_inj, Int32.reduceToInt, n_1, n_2, n_8, Int32.toNatClampNeg, Int64.lt_iff_toInt_lt, Int64.le_iff_toInt_le, ← Int64.toInt_inj, Int64.reduceToInt, Int32.toInt_toInt64, lg_cmp_ge, lg_cmp_le, lg_cmp_gt, lg_cmp_lt, lg_cmp_eq, Bool.false_eq_true, Bool.true_eq_false, reduceCtorEq, false_iff, true_iff, iff_true, iff_false, and_true, true_and, and_false, false_and, reduceIte, ite_true, ite_false, eq_self] at *)) <;> omega)) (rfl) rfl rfl (zr (by omega)) mk_X4_copyForm ly_25 ml_4_163 (Nat.le_of_ble_eq_true rfl) (fun s15 hs15 => ?_)
        obtain ⟨fs15, -⟩ := hs15
        have Fs15 : Fm [26, 27] [] σ s15 := Fm.tr Fs3 (Fm.wd fs15 rfl rfl)
        refine wa_iinc (v := (1)) (lv' := fun y17 => [(3, .int y17), (0, .ref 25), (1, .int a0), (2, .int x2)]) (by decide) rfl (by decide) (fun _ => rfl) (fun y17 hy17 => ?_)
        have ty17 := i_addT hy17.symm
        clear hy17
        refine wa_goto o_X4_copyLevel_8 (by decide) ?_
        refine wa_pick [1, 2, 3, 0] rfl ?_
        exact ih4 _ (by ((try simp only [vp_in_iff, Int32.lt_iff_toInt_lt, Int32.le_iff_toInt_le, ← Int32.toInt_inj, Int32.reduceToInt, n_1, n_2, n_8, Int32.toNatClampNeg, Int64.lt_iff_toInt_lt, Int64.le_iff_toInt_le, ← Int64.toInt_inj, Int64.reduceToInt, Int32.toInt_toInt64, lg_cmp_ge, lg_cmp_le, lg_cmp_gt, lg_cmp_lt, lg_cmp_eq, Bool.false_eq_true, Bool.true_eq_false, reduceCtorEq, false_iff, true_iff, iff_true, iff_false, and_true, true_and, and_false, false_and, reduceIte, ite_true, ite_false, eq_self] at *)) <;> omega) _ _ ⟨Fs15, (by ((try simp only [vp_in_iff, Int32.lt_iff_toInt_lt, Int32.le_iff_toInt_le, ← Int32.toInt_inj, Int32.reduceToInt, n_1, n_2, n_8, Int32.toNatClampNeg, Int64.lt_iff_toInt_lt, Int64.le_iff_toInt_le, ← Int64.toInt_inj, Int64.reduceToInt, Int32.toInt_toInt64, lg_cmp_ge, lg_cmp_le, lg_cmp_gt, lg_cmp_lt, lg_cmp_eq, Bool.false_eq_true, Bool.true_eq_false, reduceCtorEq, false_iff, true_iff, iff_true, iff_false, and_true, true_and, and_false, false_and, reduceIte, ite_true, ite_false, eq_self] at *)) <;> omega), trivial⟩ rfl
  exact hi5 _ _ _ ⟨(Fm.rf [26, 27] [] σ), (by ((try simp only [vp_in_iff, Int32.lt_iff_toInt_lt, Int32.le_iff_toInt_le, ← Int32.toInt_inj, Int32.reduceToInt, n_1, n_2, n_8, Int32.toNatClampNeg, Int64.lt_iff_toInt_lt, Int64.le_iff_toInt_le, ← Int64.toInt_inj, Int64.reduceToInt, Int32.toInt_toInt64, lg_cmp_ge, lg_cmp_le, lg_cmp_gt, lg_cmp_lt, lg_cmp_eq, Bool.false_eq_true, Bool.true_eq_false, reduceCtorEq, false_iff, true_iff, iff_true, iff_false, and_true, true_and, and_false, false_and, reduceIte, ite_true, ite_false, eq_self] at *)) <;> omega), trivial⟩ rfl
set_option maxHeartbeats 4000000 in
theorem sp_X4_multiply (G : kG9) {d : Nat} (hd : 0 ≤ d) (σ : St) (a0 : Int32) (a1 : Int32) (p1 : 0 ≤ a0.toInt ∧ a0.toInt ≤ 1914) : Ct G M_X4_multiply d [.ref 25, .int a0, .int a1] σ (fun r σ' => Fm [26] [] σ σ' ∧ True) := by
  refine wa_start (by decide) rfl (Nat.le_of_ble_eq_true rfl) (lv := [(0, .ref 25), (1, .int a0), (2, .int a1)]) rfl o_X4_multiply_0 rfl ?_
  have ua0 := Int32.toInt_lt a0
  have wa0 := Int32.le_toInt a0
  have ua1 := Int32.toInt_lt a1
  have wa1 := Int32.le_toInt a1
  refine wa_iconst (v := 0) (by decide) ?_
  refine wa_istore_nD (lv' := [(3, .int 0), (0, .ref 25), (1, .int a0), (2, .int a1)]) (i := 3) rfl (by decide) rfl ?_
  refine wa_pick [1, 2, 3, 0] rfl ?_
  have hi3 : ∀ (n9_2 : Nat) (l3 : Int32) (s1 : St), ((Fm [26] [] σ s1) ∧ (0 ≤ l3.toInt) ∧ (True)) → (2147483647 - l3.toInt).toNat = n9_2 → WA G M_X4_multiply (ZM G M_X4_multiply d (fun r σ' => Fm [26] [] σ σ' ∧ True)) B_X4_multiply_2 [(0, .ref 25), (1, .int a0), (2, .int a1), (3, .int l3)] [] s1 := by
    intro n9_2
    induction n9_2 using Nat.strongRecOn with
    | _ n9_2 ih2 =>
      intro l3 s1 i9 m9_2
      obtain ⟨Fs1, jhi3_0, -⟩ := i9
      have ul3 := Int32.toInt_lt l3
      have wl3 := Int32.le_toInt l3
      refine wa_iload_n (i := 3) rfl rfl ?_
      refine wa_iconst (v := 5) (by decide) ?_
      refine wa_icmp_ge o_X4_multiply_26 (by decide) (fun h4 => ?_) (fun h4 => ?_)
      · refine wa_return (st := []) rfl rfl ?_
        exact ⟨Fs1, trivial⟩
      · have mh4 := nle_mx h4
        refine wa_aload_n (i := 0) rfl rfl ?_
        refine wa_getr ck_4 fl_4_11 ly_25 rf_25_1 ?_
        refine wa_iload_n (i := 1) rfl rfl ?_
        refine wa_iload_n (i := 3) rfl rfl ?_
        refine wa_iadd ?_
        refine wa_top (fun v5 hv5 => ?_)
        have tv5 := i_addT hv5
        clear hv5
        refine wa_dup2 rfl rfl ?_
        refine wa_lald ly_26 (by ((try simp only [vp_in_iff, Int32.lt_iff_toInt_lt, Int32.le_iff_toInt_le, ← Int32.toInt_inj, Int32.reduceToInt, n_1, n_2, n_8, Int32.toNatClampNeg, Int64.lt_iff_toInt_lt, Int64.le_iff_toInt_le, ← Int64.toInt_inj, Int64.reduceToInt, Int32.toInt_toInt64, lg_cmp_ge, lg_cmp_le, lg_cmp_gt, lg_cmp_lt, lg_cmp_eq, Bool.false_eq_true, Bool.true_eq_false, reduceCtorEq, false_iff, true_iff, iff_true, iff_false, and_true, true_and, and_false, false_and, reduceIte, ite_true, ite_false, eq_self] at *)) <;> omega) ?_
        refine wa_iload_n (i := 2) rfl rfl ?_
        refine wa_i2l ?_
        refine wa_lmul ?_
        refine wa_topl (fun v6 hv6 => ?_)
        clear hv6
        refine wa_last ly_26 (by ((try simp only [vp_in_iff, Int32.lt_iff_toInt_lt, Int32.le_iff_toInt_le, ← Int32.toInt_inj, Int32.reduceToInt, n_1, n_2, n_8, Int32.toNatClampNeg, Int64.lt_iff_toInt_lt, Int64.le_iff_toInt_le, ← Int64.toInt_inj, Int64.reduceToInt, Int32.toInt_toInt64, lg_cmp_ge, lg_cmp_le, lg_cmp_gt, lg_cmp_lt, lg_cmp_eq, Bool.false_eq_true, Bool.true_eq_false, reduceCtorEq, false_iff, true_iff, iff_true, iff_false, and_true, true_and, and_false, false_and, reduceIte, ite_true, ite_false, eq_self] at *)) <;> omega) (fun s7 hs7 => ?_)
        have Fs7 : Fm [26] [] σ s7 := by rw [hs7]; exact Fm.sl Fs1 rfl
        refine wa_iinc (v := (1)) (lv' := fun y8 => [(3, .int y8), (0, .ref 25), (1, .int a0), (2, .int a1)]) (by decide) rfl (by decide) (fun _ => rfl) (fun y8 hy8 => ?_)
        have ty8 := i_addT hy8.symm
        clear hy8
        refine wa_goto o_X4_multiply_2 (by decide) ?_
        refine wa_pick [1, 2, 3, 0] rfl ?_
        exact ih2 _ (by ((try simp only [vp_in_iff, Int32.lt_iff_toInt_lt, Int32.le_iff_toInt_le, ← Int32.toInt_inj, Int32.reduceToInt, n_1, n_2, n_8, Int32.toNatClampNeg, Int64.lt_iff_toInt_lt, Int64.le_iff_toInt_le, ← Int64.toInt_inj, Int64.reduceToInt, Int32.toInt_toInt64, lg_cmp_ge, lg_cmp_le, lg_cmp_gt, lg_cmp_lt, lg_cmp_eq, Bool.false_eq_true, Bool.true_eq_false, reduceCtorEq, false_iff, true_iff, iff_true, iff_false, and_true, true_and, and_false, false_and, reduceIte, ite_true, ite_false, eq_self] at *)) <;> omega) _ _ ⟨Fs7, (by ((try simp only [vp_in_iff, Int32.lt_iff_toInt_lt, Int32.le_iff_toInt_le, ← Int32.toInt_inj, Int32.reduceToInt, n_1, n_2, n_8, Int32.toNatClampNeg, Int64.lt_iff_toInt_lt, Int64.le_iff_toInt_le, ← Int64.toInt_inj, Int64.reduceToInt, Int32.toInt_toInt64, lg_cmp_ge, lg_cmp_le, lg_cmp_gt, lg_cmp_lt, lg_cmp_eq, Bool.false_eq_true, Bool.true_eq_false, reduceCtorEq, false_iff, true_iff, iff_true, iff_false, and_true, true_and, and_false, false_and, reduceIte, ite_true, ite_false, eq_self] at *)) <;> omega), trivial⟩ rfl
  exact hi3 _ _ _ ⟨(Fm.rf [26] [] σ), (by ((try simp only [vp_in_iff, Int32.lt_iff_toInt_lt, Int32.le_iff_toInt_le, ← Int32.toInt_inj, Int32.reduceToInt, n_1, n_2, n_8, Int32.toNatClampNeg, Int64.lt_iff_toInt_lt, Int64.le_iff_toInt_le, ← Int64.toInt_inj, Int64.reduceToInt, Int32.toInt_toInt64, lg_cmp_ge, lg_cmp_le, lg_cmp_gt, lg_cmp_lt, lg_cmp_eq, Bool.false_eq_true, Bool.true_eq_false, reduceCtorEq, false_iff, true_iff, iff_true, iff_false, and_true, true_and, and_false, false_and, reduceIte, ite_true, ite_false, eq_self] at *)) <;> omega), trivial⟩ rfl
set_option maxHeartbeats 4000000 in
theorem sp_X4_splitSign (G : kG9) {d : Nat} (hd : 2 ≤ d) (σ : St) (a0 : Int32) (a1 : Int32) : Ct G M_X4_splitSign d [.ref 25, .int a0, .int a1] σ (fun r σ' => Fm [7, 8, 9, 10, 11, 12, 13, 14, 15, 25, 26, 27, 28] [] σ σ' ∧ True) := by
  refine wa_start (by decide) rfl (Nat.le_of_ble_eq_true rfl) (lv := [(0, .ref 25), (1, .int a0), (2, .int a1)]) rfl o_X4_splitSign_0 rfl ?_
  have ua0 := Int32.toInt_lt a0
  have wa0 := Int32.le_toInt a0
  have ua1 := Int32.toInt_lt a1
  have wa1 := Int32.le_toInt a1
  refine wa_aload_n (i := 0) rfl rfl ?_
  refine wa_iload_n (i := 1) rfl rfl ?_
  refine wa_Vi (d9 := d - 1) [.int _] [] (sp_X4_top G (d := d - 1) (by omega) σ _) (rfl) rfl rfl (zr (by omega)) mk_X4_top ly_25 ml_4_137 (Nat.le_of_ble_eq_true rfl) (fun x2 s1 hs1 => ?_)
  obtain ⟨zs1, -⟩ := pI hs1
  subst zs1
  refine wa_iconst (v := 1) (by decide) ?_
  refine wa_isub ?_
  refine wa_top (fun v3 hv3 => ?_)
  have tv3 := i_subT hv3
  clear hv3
  refine wa_istore_nD (lv' := [(3, .int v3), (0, .ref 25), (1, .int a0), (2, .int a1)]) (i := 3) rfl (by decide) rfl ?_
  refine wa_aload_n (i := 0) rfl rfl ?_
  refine wa_aload_n (i := 0) rfl rfl ?_
  refine wa_iload_n (i := 1) rfl rfl ?_
  refine wa_iload_n (i := 3) rfl rfl ?_
  refine wa_Si (d9 := d - 1) [.int _, .int _] [.ref 25, .ref 25] (sp_X4_form G (d := d - 1) (by omega) σ _ _) (rfl) rfl rfl (zr (by omega)) mk_X4_form ml_4_95 (Nat.le_of_ble_eq_true rfl) (fun x5 s4 hs4 => ?_)
  obtain ⟨zs4, cx5_1, -⟩ := pI hs4
  subst zs4
  refine wa_iconst (v := (-1)) (by decide) ?_
  refine wa_iconst (v := 0) (by decide) ?_
  refine wa_Vi (d9 := d - 1) [.int _, .int _, .int _] [.ref 25] (sp_X4_lineOf G (d := d - 1) (by omega) σ _ _ _ (by ((try simp only [vp_in_iff, Int32.lt_iff_toInt_lt, Int32.le_iff_toInt_le, ← Int32.toInt_inj, Int32.reduceToInt, n_1, n_2, n_8, Int32.toNatClampNeg, Int64.lt_iff_toInt_lt, Int64.le_iff_toInt_le, ← Int64.toInt_inj, Int64.reduceToInt, Int32.toInt_toInt64, lg_cmp_ge, lg_cmp_le, lg_cmp_gt, lg_cmp_lt, lg_cmp_eq, Bool.false_eq_true, Bool.true_eq_false, reduceCtorEq, false_iff, true_iff, iff_true, iff_false, and_true, true_and, and_false, false_and, reduceIte, ite_true, ite_false, eq_self] at *)) <;> omega)) (rfl) rfl rfl (zr (by omega)) mk_X4_lineOf ly_25 ml_4_140 (Nat.le_of_ble_eq_true rfl) (fun x7 s6 hs6 => ?_)
  obtain ⟨fs6, -⟩ := pI hs6
  have Fs6 : Fm [7, 8, 9, 10, 11, 12, 13, 14, 15, 25, 26, 27, 28] [] σ s6 := Fm.tr (Fm.rf [7, 8, 9, 10, 11, 12, 13, 14, 15, 25, 26, 27, 28] [] σ) (Fm.wd fs6 rfl rfl)
  refine wa_Vv (d9 := d - 1) [.int _] [] (sp_X4_add G (d := d - 1) (by omega) s6 _) (rfl) rfl rfl (zr (by omega)) mk_X4_add ly_25 ml_4_144 (Nat.le_of_ble_eq_true rfl) (fun s8 hs8 => ?_)
  obtain ⟨fs8, -⟩ := hs8
  have Fs8 : Fm [7, 8, 9, 10, 11, 12, 13, 14, 15, 25, 26, 27, 28] [] σ s8 := Fm.tr Fs6 (Fm.wd fs8 rfl rfl)
  refine wa_aload_n (i := 0) rfl rfl ?_
  refine wa_iload_n (i := 1) rfl rfl ?_
  refine wa_Vv (d9 := d - 1) [.int _] [] (sp_X4_copyLevel G (d := d - 1) (by omega) s8 _) (rfl) rfl rfl (zr (by omega)) mk_X4_copyLevel ly_25 ml_4_147 (Nat.le_of_ble_eq_true rfl) (fun s10 hs10 => ?_)
  obtain ⟨fs10, -⟩ := hs10
  have Fs10 : Fm [7, 8, 9, 10, 11, 12, 13, 14, 15, 25, 26, 27, 28] [] σ s10 := Fm.tr Fs8 (Fm.wd fs10 rfl rfl)
  refine wa_iload_n (i := 2) rfl rfl ?_
  refine wa_iconst (v := 1) (by decide) ?_
  refine wa_icmp_ne o_X4_splitSign_51 (by decide) (fun h12 => ?_) (fun h12 => ?_)
  · refine wa_return (st := []) rfl rfl ?_
    exact ⟨Fs10, trivial⟩
  · refine wa_aload_n (i := 0) rfl rfl ?_
    refine wa_bipush (v := (-25)) (by decide) ?_
    refine wa_Vv (d9 := d - 1) [.int _] [] (sp_X4_emit G (d := d - 1) (by omega) s10 _) (rfl) rfl rfl (zr (by omega)) mk_X4_emit ly_25 ml_4_76 (Nat.le_of_ble_eq_true rfl) (fun s13 hs13 => ?_)
    obtain ⟨fs13, -⟩ := hs13
    have Fs13 : Fm [7, 8, 9, 10, 11, 12, 13, 14, 15, 25, 26, 27, 28] [] σ s13 := Fm.tr Fs10 (Fm.wd fs13 rfl rfl)
    refine wa_aload_n (i := 0) rfl rfl ?_
    refine wa_iload_n (i := 1) rfl rfl ?_
    refine wa_iconst (v := 1) (by decide) ?_
    refine wa_iadd ?_
    refine wa_top (fun v15 hv15 => ?_)
    have tv15 := i_addT hv15
    clear hv15
    refine wa_iload_n (i := 3) rfl rfl ?_
    refine wa_Si (d9 := d - 1) [.int _, .int _] [.ref 25] (sp_X4_form G (d := d - 1) (by omega) s13 _ _) (rfl) rfl rfl (zr (by omega)) mk_X4_form ml_4_95 (Nat.le_of_ble_eq_true rfl) (fun x17 s16 hs16 => ?_)
    obtain ⟨zs16, cx17_1, -⟩ := pI hs16
    subst zs16
    refine wa_iconst (v := (-1)) (by decide) ?_
    refine wa_Vv (d9 := d - 1) [.int _, .int _] [] (sp_X4_multiply G (d := d - 1) (by omega) s13 _ _ (by ((try simp only [vp_in_iff, Int32.lt_iff_toInt_lt, Int32.le_iff_toInt_le, ← Int32.toInt_inj, Int32.reduceToInt, n_1, n_2, n_8, Int32.toNatClampNeg, Int64.lt_iff_toInt_lt, Int64.le_iff_toInt_le, ← Int64.toInt_inj, Int64.reduceToInt, Int32.toInt_toInt64, lg_cmp_ge, lg_cmp_le, lg_cmp_gt, lg_cmp_lt, lg_cmp_eq, Bool.false_eq_true, Bool.true_eq_false, reduceCtorEq, false_iff, true_iff, iff_true, iff_false, and_true, true_and, and_false, false_and, reduceIte, ite_true, ite_false, eq_self] at *)) <;> omega)) (rfl) rfl rfl (zr (by omega)) mk_X4_multiply ly_25 ml_4_150 (Nat.le_of_ble_eq_true rfl) (fun s18 hs18 => ?_)
    obtain ⟨fs18, -⟩ := hs18
    have Fs18 : Fm [7, 8, 9, 10, 11, 12, 13, 14, 15, 25, 26, 27, 28] [] σ s18 := Fm.tr Fs13 (Fm.wd fs18 rfl rfl)
    refine wa_return (st := []) rfl rfl ?_
    exact ⟨Fs18, trivial⟩
set_option maxHeartbeats 4000000 in
theorem sp_X11_commonDivisor (G : kG9) {d : Nat} (hd : 0 ≤ d) (σ : St) (a0 : Int64) (a1 : Int64) : Ct G M_X11_commonDivisor d [.long a0, .long a1] σ (fun r σ' => ∃ x : Int64, r = some (.long x) ∧ σ = σ' ∧ True) := by
  refine wa_start (by decide) rfl (Nat.le_of_ble_eq_true rfl) (lv := [(0, .long a0), (2, .long a1)]) rfl o_X11_commonDivisor_0 rfl ?_
  refine wa_lload_n (i := 0) rfl rfl ?_
  refine wa_lconst (v := 0) (by decide) ?_
  refine wa_lcmp ?_
  refine wa_top (fun v1 hv1 => ?_)
  have tv1 := i_cmpT hv1
  clear hv1
  refine wa_if_ge o_X11_commonDivisor_11 (by decide) (fun h2 => ?_) (fun h2 => ?_)
  · refine wa_lload_n (i := 0) rfl rfl ?_
    refine wa_lstoreD (lv' := [(4, .long a0), (0, .long a0), (2, .long a1)]) (by decide) rfl ?_
    refine wa_lload_n (i := 2) rfl rfl ?_
    refine wa_lconst (v := 0) (by decide) ?_
    refine wa_lcmp ?_
    refine wa_top (fun v3 hv3 => ?_)
    have tv3 := i_cmpT hv3
    clear hv3
    refine wa_if_ge o_X11_commonDivisor_25 (by decide) (fun h4 => ?_) (fun h4 => ?_)
    · refine wa_lload_n (i := 2) rfl rfl ?_
      refine wa_lstoreD (lv' := [(6, .long a1), (4, .long a0), (0, .long a0), (2, .long a1)]) (by decide) rfl ?_
      refine wa_iconst (v := 0) (by decide) ?_
      refine wa_istoreD (lv' := [(8, .int 0), (6, .long a1), (4, .long a0), (0, .long a0), (2, .long a1)]) (by decide) rfl ?_
      refine wa_pick [2, 1, 0] rfl ?_
      have hi6 : ∀ (n9_31 : Nat) (l4 : Int64) (l6 : Int64) (l8 : Int32), ((0 ≤ l8.toInt) ∧ (True)) → (2147483647 - l8.toInt).toNat = n9_31 → WA G M_X11_commonDivisor (ZM G M_X11_commonDivisor d (fun r σ' => ∃ x : Int64, r = some (.long x) ∧ σ = σ' ∧ True)) B_X11_commonDivisor_31 [(4, .long l4), (6, .long l6), (8, .int l8)] [] σ := by
        intro n9_31
        induction n9_31 using Nat.strongRecOn with
        | _ n9_31 ih5 =>
          intro l4 l6 l8  i9 m9_31
          obtain ⟨jhi6_0, -⟩ := i9
          have ul8 := Int32.toInt_lt l8
          have wl8 := Int32.le_toInt l8
          refine wa_iload rfl ?_
          refine wa_sipush (v := 200) (by decide) ?_
          refine wa_icmp_ge o_X11_commonDivisor_67 (by decide) (fun h7 => ?_) (fun h7 => ?_)
          · refine wa_lload rfl ?_
            refine wa_lreturn rfl rfl ?_
            exact ⟨_, rfl, rfl, trivial⟩
          · have mh7 := nle_mx h7
            refine wa_lload rfl ?_
            refine wa_lconst (v := 0) (by decide) ?_
            refine wa_lcmp ?_
            refine wa_top (fun v8 hv8 => ?_)
            have tv8 := i_cmpT hv8
            clear hv8
            refine wa_if_eq o_X11_commonDivisor_67 (by decide) (fun h9 => ?_) (fun h9 => ?_)
            · refine wa_lload rfl ?_
              refine wa_lreturn rfl rfl ?_
              exact ⟨_, rfl, rfl, trivial⟩
            · refine wa_lload rfl ?_
              refine wa_lload rfl ?_
              refine wa_lrem (by ((try simp only [vp_in_iff, Int32.lt_iff_toInt_lt, Int32.le_iff_toInt_le, ← Int32.toInt_inj, Int32.reduceToInt, n_1, n_2, n_8, Int32.toNatClampNeg, Int64.lt_iff_toInt_lt, Int64.le_iff_toInt_le, ← Int64.toInt_inj, Int64.reduceToInt, Int32.toInt_toInt64, lg_cmp_ge, lg_cmp_le, lg_cmp_gt, lg_cmp_lt, lg_cmp_eq, Bool.false_eq_true, Bool.true_eq_false, reduceCtorEq, false_iff, true_iff, iff_true, iff_false, and_true, true_and, and_false, false_and, reduceIte, ite_true, ite_false, eq_self] at *)) <;> omega) ?_
              refine wa_topl (fun v10 hv10 => ?_)
              clear hv10
              refine wa_lstoreD (lv' := [(9, .long v10), (4, .long l4), (6, .long l6), (8, .int l8)]) (by decide) rfl ?_
              refine wa_lload rfl ?_
              refine wa_lstoreD (lv' := [(4, .long l6), (9, .long v10), (6, .long l6), (8, .int l8)]) (by decide) rfl ?_
              refine wa_lload rfl ?_
              refine wa_lstoreD (lv' := [(6, .long v10), (4, .long l6), (9, .long v10), (8, .int l8)]) (by decide) rfl ?_
              refine wa_iinc (v := (1)) (lv' := fun y11 => [(8, .int y11), (6, .long v10), (4, .long l6), (9, .long v10)]) (by decide) rfl (by decide) (fun _ => rfl) (fun y11 hy11 => ?_)
              have ty11 := i_addT hy11.symm
              clear hy11
              refine wa_goto o_X11_commonDivisor_31 (by decide) ?_
              refine wa_pick [2, 1, 0] rfl ?_
              exact ih5 _ (by ((try simp only [vp_in_iff, Int32.lt_iff_toInt_lt, Int32.le_iff_toInt_le, ← Int32.toInt_inj, Int32.reduceToInt, n_1, n_2, n_8, Int32.toNatClampNeg, Int64.lt_iff_toInt_lt, Int64.le_iff_toInt_le, ← Int64.toInt_inj, Int64.reduceToInt, Int32.toInt_toInt64, lg_cmp_ge, lg_cmp_le, lg_cmp_gt, lg_cmp_lt, lg_cmp_eq, Bool.false_eq_true, Bool.true_eq_false, reduceCtorEq, false_iff, true_iff, iff_true, iff_false, and_true, true_and, and_false, false_and, reduceIte, ite_true, ite_false, eq_self] at *)) <;> omega) _ _ _ ⟨(by ((try simp only [vp_in_iff, Int32.lt_iff_toInt_lt, Int32.le_iff_toInt_le, ← Int32.toInt_inj, Int32.reduceToInt, n_1, n_2, n_8, Int32.toNatClampNeg, Int64.lt_iff_toInt_lt, Int64.le_iff_toInt_le, ← Int64.toInt_inj, Int64.reduceToInt, Int32.toInt_toInt64, lg_cmp_ge, lg_cmp_le, lg_cmp_gt, lg_cmp_lt, lg_cmp_eq, Bool.false_eq_true, Bool.true_eq_false, reduceCtorEq, false_iff, true_iff, iff_true, iff_false, and_true, true_and, and_false, false_and, reduceIte, ite_true, ite_false, eq_self] at *)) <;> omega), trivial⟩ rfl
      exact hi6 _ _ _ _ ⟨(by ((try simp only [vp_in_iff, Int32.lt_iff_toInt_lt, Int32.le_iff_toInt_le, ← Int32.toInt_inj, Int32.reduceToInt, n_1, n_2, n_8, Int32.toNatClampNeg, Int64.lt_iff_toInt_lt, Int64.le_iff_toInt_le, ← Int64.toInt_inj, Int64.reduceToInt, Int32.toInt_toInt64, lg_cmp_ge, lg_cmp_le, lg_cmp_gt, lg_cmp_lt, lg_cmp_eq, Bool.false_eq_true, Bool.true_eq_false, reduceCtorEq, false_iff, true_iff, iff_true, iff_false, and_true, true_and, and_false, false_and, reduceIte, ite_true, ite_false, eq_self] at *)) <;> omega), trivial⟩ rfl
    · refine wa_lload_n (i := 2) rfl rfl ?_
      refine wa_lneg ?_
      refine wa_topl (fun v12 hv12 => ?_)
      clear hv12
      refine wa_goto o_X11_commonDivisor_26 (by decide) ?_
      refine wa_lstoreD (lv' := [(6, .long v12), (4, .long a0), (0, .long a0), (2, .long a1)]) (by decide) rfl ?_
      refine wa_iconst (v := 0) (by decide) ?_
      refine wa_istoreD (lv' := [(8, .int 0), (6, .long v12), (4, .long a0), (0, .long a0), (2, .long a1)]) (by decide) rfl ?_
      refine wa_pick [2, 1, 0] rfl ?_
      have hi14 : ∀ (n9_31 : Nat) (l4 : Int64) (l6 : Int64) (l8 : Int32), ((0 ≤ l8.toInt) ∧ (True)) → (2147483647 - l8.toInt).toNat = n9_31 → WA G M_X11_commonDivisor (ZM G M_X11_commonDivisor d (fun r σ' => ∃ x : Int64, r = some (.long x) ∧ σ = σ' ∧ True)) B_X11_commonDivisor_31 [(4, .long l4), (6, .long l6), (8, .int l8)] [] σ := by
        intro n9_31
        induction n9_31 using Nat.strongRecOn with
        | _ n9_31 ih13 =>
          intro l4 l6 l8  i9 m9_31
          obtain ⟨jhi14_0, -⟩ := i9
          have ul8 := Int32.toInt_lt l8
          have wl8 := Int32.le_toInt l8
          refine wa_iload rfl ?_
          refine wa_sipush (v := 200) (by decide) ?_
          refine wa_icmp_ge o_X11_commonDivisor_67 (by decide) (fun h15 => ?_) (fun h15 => ?_)
          · refine wa_lload rfl ?_
            refine wa_lreturn rfl rfl ?_
            exact ⟨_, rfl, rfl, trivial⟩
          · have mh15 := nle_mx h15
            refine wa_lload rfl ?_
            refine wa_lconst (v := 0) (by decide) ?_
            refine wa_lcmp ?_
            refine wa_top (fun v16 hv16 => ?_)
            have tv16 := i_cmpT hv16
            clear hv16
            refine wa_if_eq o_X11_commonDivisor_67 (by decide) (fun h17 => ?_) (fun h17 => ?_)
            · refine wa_lload rfl ?_
              refine wa_lreturn rfl rfl ?_
              exact ⟨_, rfl, rfl, trivial⟩
            · refine wa_lload rfl ?_
              refine wa_lload rfl ?_
              refine wa_lrem (by ((try simp only [vp_in_iff, Int32.lt_iff_toInt_lt, Int32.le_iff_toInt_le, ← Int32.toInt_inj, Int32.reduceToInt, n_1, n_2, n_8, Int32.toNatClampNeg, Int64.lt_iff_toInt_lt, Int64.le_iff_toInt_le, ← Int64.toInt_inj, Int64.reduceToInt, Int32.toInt_toInt64, lg_cmp_ge, lg_cmp_le, lg_cmp_gt, lg_cmp_lt, lg_cmp_eq, Bool.false_eq_true, Bool.true_eq_false, reduceCtorEq, false_iff, true_iff, iff_true, iff_false, and_true, true_and, and_false, false_and, reduceIte, ite_true, ite_false, eq_self] at *)) <;> omega) ?_
              refine wa_topl (fun v18 hv18 => ?_)
              clear hv18
              refine wa_lstoreD (lv' := [(9, .long v18), (4, .long l4), (6, .long l6), (8, .int l8)]) (by decide) rfl ?_
              refine wa_lload rfl ?_
              refine wa_lstoreD (lv' := [(4, .long l6), (9, .long v18), (6, .long l6), (8, .int l8)]) (by decide) rfl ?_
              refine wa_lload rfl ?_
              refine wa_lstoreD (lv' := [(6, .long v18), (4, .long l6), (9, .long v18), (8, .int l8)]) (by decide) rfl ?_
              refine wa_iinc (v := (1)) (lv' := fun y19 => [(8, .int y19), (6, .long v18), (4, .long l6), (9, .long v18)]) (by decide) rfl (by decide) (fun _ => rfl) (fun y19 hy19 => ?_)
              have ty19 := i_addT hy19.symm
              clear hy19
              refine wa_goto o_X11_commonDivisor_31 (by decide) ?_
              refine wa_pick [2, 1, 0] rfl ?_
              exact ih13 _ (by ((try simp only [vp_in_iff, Int32.lt_iff_toInt_lt, Int32.le_iff_toInt_le, ← Int32.toInt_inj, Int32.reduceToInt, n_1, n_2, n_8, Int32.toNatClampNeg, Int64.lt_iff_toInt_lt, Int64.le_iff_toInt_le, ← Int64.toInt_inj, Int64.reduceToInt, Int32.toInt_toInt64, lg_cmp_ge, lg_cmp_le, lg_cmp_gt, lg_cmp_lt, lg_cmp_eq, Bool.false_eq_true, Bool.true_eq_false, reduceCtorEq, false_iff, true_iff, iff_true, iff_false, and_true, true_and, and_false, false_and, reduceIte, ite_true, ite_false, eq_self] at *)) <;> omega) _ _ _ ⟨(by ((try simp only [vp_in_iff, Int32.lt_iff_toInt_lt, Int32.le_iff_toInt_le, ← Int32.toInt_inj, Int32.reduceToInt, n_1, n_2, n_8, Int32.toNatClampNeg, Int64.lt_iff_toInt_lt, Int64.le_iff_toInt_le, ← Int64.toInt_inj, Int64.reduceToInt, Int32.toInt_toInt64, lg_cmp_ge, lg_cmp_le, lg_cmp_gt, lg_cmp_lt, lg_cmp_eq, Bool.false_eq_true, Bool.true_eq_false, reduceCtorEq, false_iff, true_iff, iff_true, iff_false, and_true, true_and, and_false, false_and, reduceIte, ite_true, ite_false, eq_self] at *)) <;> omega), trivial⟩ rfl
      exact hi14 _ _ _ _ ⟨(by ((try simp only [vp_in_iff, Int32.lt_iff_toInt_lt, Int32.le_iff_toInt_le, ← Int32.toInt_inj, Int32.reduceToInt, n_1, n_2, n_8, Int32.toNatClampNeg, Int64.lt_iff_toInt_lt, Int64.le_iff_toInt_le, ← Int64.toInt_inj, Int64.reduceToInt, Int32.toInt_toInt64, lg_cmp_ge, lg_cmp_le, lg_cmp_gt, lg_cmp_lt, lg_cmp_eq, Bool.false_eq_true, Bool.true_eq_false, reduceCtorEq, false_iff, true_iff, iff_true, iff_false, and_true, true_and, and_false, false_and, reduceIte, ite_true, ite_false, eq_self] at *)) <;> omega), trivial⟩ rfl
  · refine wa_lload_n (i := 0) rfl rfl ?_
    refine wa_lneg ?_
    refine wa_topl (fun v20 hv20 => ?_)
    clear hv20
    refine wa_goto o_X11_commonDivisor_12 (by decide) ?_
    refine wa_lstoreD (lv' := [(4, .long v20), (0, .long a0), (2, .long a1)]) (by decide) rfl ?_
    refine wa_lload_n (i := 2) rfl rfl ?_
    refine wa_lconst (v := 0) (by decide) ?_
    refine wa_lcmp ?_
    refine wa_top (fun v21 hv21 => ?_)
    have tv21 := i_cmpT hv21
    clear hv21
    refine wa_if_ge o_X11_commonDivisor_25 (by decide) (fun h22 => ?_) (fun h22 => ?_)
    · refine wa_lload_n (i := 2) rfl rfl ?_
      refine wa_lstoreD (lv' := [(6, .long a1), (4, .long v20), (0, .long a0), (2, .long a1)]) (by decide) rfl ?_
      refine wa_iconst (v := 0) (by decide) ?_
      refine wa_istoreD (lv' := [(8, .int 0), (6, .long a1), (4, .long v20), (0, .long a0), (2, .long a1)]) (by decide) rfl ?_
      refine wa_pick [2, 1, 0] rfl ?_
      have hi24 : ∀ (n9_31 : Nat) (l4 : Int64) (l6 : Int64) (l8 : Int32), ((0 ≤ l8.toInt) ∧ (True)) → (2147483647 - l8.toInt).toNat = n9_31 → WA G M_X11_commonDivisor (ZM G M_X11_commonDivisor d (fun r σ' => ∃ x : Int64, r = some (.long x) ∧ σ = σ' ∧ True)) B_X11_commonDivisor_31 [(4, .long l4), (6, .long l6), (8, .int l8)] [] σ := by
        intro n9_31
        induction n9_31 using Nat.strongRecOn with
        | _ n9_31 ih23 =>
          intro l4 l6 l8  i9 m9_31
          obtain ⟨jhi24_0, -⟩ := i9
          have ul8 := Int32.toInt_lt l8
          have wl8 := Int32.le_toInt l8
          refine wa_iload rfl ?_
          refine wa_sipush (v := 200) (by decide) ?_
          refine wa_icmp_ge o_X11_commonDivisor_67 (by decide) (fun h25 => ?_) (fun h25 => ?_)
          · refine wa_lload rfl ?_
            refine wa_lreturn rfl rfl ?_
            exact ⟨_, rfl, rfl, trivial⟩
          · have mh25 := nle_mx h25
            refine wa_lload rfl ?_
            refine wa_lconst (v := 0) (by decide) ?_
            refine wa_lcmp ?_
            refine wa_top (fun v26 hv26 => ?_)
            have tv26 := i_cmpT hv26
            clear hv26
            refine wa_if_eq o_X11_commonDivisor_67 (by decide) (fun h27 => ?_) (fun h27 => ?_)
            · refine wa_lload rfl ?_
              refine wa_lreturn rfl rfl ?_
              exact ⟨_, rfl, rfl, trivial⟩
            · refine wa_lload rfl ?_
              refine wa_lload rfl ?_
              refine wa_lrem (by ((try simp only [vp_in_iff, Int32.lt_iff_toInt_lt, Int32.le_iff_toInt_le, ← Int32.toInt_inj, Int32.reduceToInt, n_1, n_2, n_8, Int32.toNatClampNeg, Int64.lt_iff_toInt_lt, Int64.le_iff_toInt_le, ← Int64.toInt_inj, Int64.reduceToInt, Int32.toInt_toInt64, lg_cmp_ge, lg_cmp_le, lg_cmp_gt, lg_cmp_lt, lg_cmp_eq, Bool.false_eq_true, Bool.true_eq_false, reduceCtorEq, false_iff, true_iff, iff_true, iff_false, and_true, true_and, and_false, false_and, reduceIte, ite_true, ite_false, eq_self] at *)) <;> omega) ?_
              refine wa_topl (fun v28 hv28 => ?_)
              clear hv28
              refine wa_lstoreD (lv' := [(9, .long v28), (4, .long l4), (6, .long l6), (8, .int l8)]) (by decide) rfl ?_
              refine wa_lload rfl ?_
              refine wa_lstoreD (lv' := [(4, .long l6), (9, .long v28), (6, .long l6), (8, .int l8)]) (by decide) rfl ?_
              refine wa_lload rfl ?_
              refine wa_lstoreD (lv' := [(6, .long v28), (4, .long l6), (9, .long v28), (8, .int l8)]) (by decide) rfl ?_
              refine wa_iinc (v := (1)) (lv' := fun y29 => [(8, .int y29), (6, .long v28), (4, .long l6), (9, .long v28)]) (by decide) rfl (by decide) (fun _ => rfl) (fun y29 hy29 => ?_)
              have ty29 := i_addT hy29.symm
              clear hy29
              refine wa_goto o_X11_commonDivisor_31 (by decide) ?_
              refine wa_pick [2, 1, 0] rfl ?_
              exact ih23 _ (by ((try simp only [vp_in_iff, Int32.lt_iff_toInt_lt, Int32.le_iff_toInt_le, ← Int32.toInt_inj, Int32.reduceToInt, n_1, n_2, n_8, Int32.toNatClampNeg, Int64.lt_iff_toInt_lt, Int64.le_iff_toInt_le, ← Int64.toInt_inj, Int64.reduceToInt, Int32.toInt_toInt64, lg_cmp_ge, lg_cmp_le, lg_cmp_gt, lg_cmp_lt, lg_cmp_eq, Bool.false_eq_true, Bool.true_eq_false, reduceCtorEq, false_iff, true_iff, iff_true, iff_false, and_true, true_and, and_false, false_and, reduceIte, ite_true, ite_false, eq_self] at *)) <;> omega) _ _ _ ⟨(by ((try simp only [vp_in_iff, Int32.lt_iff_toInt_lt, Int32.le_iff_toInt_le, ← Int32.toInt_inj, Int32.reduceToInt, n_1, n_2, n_8, Int32.toNatClampNeg, Int64.lt_iff_toInt_lt, Int64.le_iff_toInt_le, ← Int64.toInt_inj, Int64.reduceToInt, Int32.toInt_toInt64, lg_cmp_ge, lg_cmp_le, lg_cmp_gt, lg_cmp_lt, lg_cmp_eq, Bool.false_eq_true, Bool.true_eq_false, reduceCtorEq, false_iff, true_iff, iff_true, iff_false, and_true, true_and, and_false, false_and, reduceIte, ite_true, ite_false, eq_self] at *)) <;> omega), trivial⟩ rfl
      exact hi24 _ _ _ _ ⟨(by ((try simp only [vp_in_iff, Int32.lt_iff_toInt_lt, Int32.le_iff_toInt_le, ← Int32.toInt_inj, Int32.reduceToInt, n_1, n_2, n_8, Int32.toNatClampNeg, Int64.lt_iff_toInt_lt, Int64.le_iff_toInt_le, ← Int64.toInt_inj, Int64.reduceToInt, Int32.toInt_toInt64, lg_cmp_ge, lg_cmp_le, lg_cmp_gt, lg_cmp_lt, lg_cmp_eq, Bool.false_eq_true, Bool.true_eq_false, reduceCtorEq, false_iff, true_iff, iff_true, iff_false, and_true, true_and, and_false, false_and, reduceIte, ite_true, ite_false, eq_self] at *)) <;> omega), trivial⟩ rfl
    · refine wa_lload_n (i := 2) rfl rfl ?_
      refine wa_lneg ?_
      refine wa_topl (fun v30 hv30 => ?_)
      clear hv30
      refine wa_goto o_X11_commonDivisor_26 (by decide) ?_
      refine wa_lstoreD (lv' := [(6, .long v30), (4, .long v20), (0, .long a0), (2, .long a1)]) (by decide) rfl ?_
      refine wa_iconst (v := 0) (by decide) ?_
      refine wa_istoreD (lv' := [(8, .int 0), (6, .long v30), (4, .long v20), (0, .long a0), (2, .long a1)]) (by decide) rfl ?_
      refine wa_pick [2, 1, 0] rfl ?_
      have hi32 : ∀ (n9_31 : Nat) (l4 : Int64) (l6 : Int64) (l8 : Int32), ((0 ≤ l8.toInt) ∧ (True)) → (2147483647 - l8.toInt).toNat = n9_31 → WA G M_X11_commonDivisor (ZM G M_X11_commonDivisor d (fun r σ' => ∃ x : Int64, r = some (.long x) ∧ σ = σ' ∧ True)) B_X11_commonDivisor_31 [(4, .long l4), (6, .long l6), (8, .int l8)] [] σ := by
        intro n9_31
        induction n9_31 using Nat.strongRecOn with
        | _ n9_31 ih31 =>
          intro l4 l6 l8  i9 m9_31
          obtain ⟨jhi32_0, -⟩ := i9
          have ul8 := Int32.toInt_lt l8
          have wl8 := Int32.le_toInt l8
          refine wa_iload rfl ?_
          refine wa_sipush (v := 200) (by decide) ?_
          refine wa_icmp_ge o_X11_commonDivisor_67 (by decide) (fun h33 => ?_) (fun h33 => ?_)
          · refine wa_lload rfl ?_
            refine wa_lreturn rfl rfl ?_
            exact ⟨_, rfl, rfl, trivial⟩
          · have mh33 := nle_mx h33
            refine wa_lload rfl ?_
            refine wa_lconst (v := 0) (by decide) ?_
            refine wa_lcmp ?_
            refine wa_top (fun v34 hv34 => ?_)
            have tv34 := i_cmpT hv34
            clear hv34
            refine wa_if_eq o_X11_commonDivisor_67 (by decide) (fun h35 => ?_) (fun h35 => ?_)
            · refine wa_lload rfl ?_
              refine wa_lreturn rfl rfl ?_
              exact ⟨_, rfl, rfl, trivial⟩
            · refine wa_lload rfl ?_
              refine wa_lload rfl ?_
              refine wa_lrem (by ((try simp only [vp_in_iff, Int32.lt_iff_toInt_lt, Int32.le_iff_toInt_le, ← Int32.toInt_inj, Int32.reduceToInt, n_1, n_2, n_8, Int32.toNatClampNeg, Int64.lt_iff_toInt_lt, Int64.le_iff_toInt_le, ← Int64.toInt_inj, Int64.reduceToInt, Int32.toInt_toInt64, lg_cmp_ge, lg_cmp_le, lg_cmp_gt, lg_cmp_lt, lg_cmp_eq, Bool.false_eq_true, Bool.true_eq_false, reduceCtorEq, false_iff, true_iff, iff_true, iff_false, and_true, true_and, and_false, false_and, reduceIte, ite_true, ite_false, eq_self] at *)) <;> omega) ?_
              refine wa_topl (fun v36 hv36 => ?_)
              clear hv36
              refine wa_lstoreD (lv' := [(9, .long v36), (4, .long l4), (6, .long l6), (8, .int l8)]) (by decide) rfl ?_
              refine wa_lload rfl ?_
              refine wa_lstoreD (lv' := [(4, .long l6), (9, .long v36), (6, .long l6), (8, .int l8)]) (by decide) rfl ?_
              refine wa_lload rfl ?_
              refine wa_lstoreD (lv' := [(6, .long v36), (4, .long l6), (9, .long v36), (8, .int l8)]) (by decide) rfl ?_
              refine wa_iinc (v := (1)) (lv' := fun y37 => [(8, .int y37), (6, .long v36), (4, .long l6), (9, .long v36)]) (by decide) rfl (by decide) (fun _ => rfl) (fun y37 hy37 => ?_)
              have ty37 := i_addT hy37.symm
              clear hy37
              refine wa_goto o_X11_commonDivisor_31 (by decide) ?_
              refine wa_pick [2, 1, 0] rfl ?_
              exact ih31 _ (by ((try simp only [vp_in_iff, Int32.lt_iff_toInt_lt, Int32.le_iff_toInt_le, ← Int32.toInt_inj, Int32.reduceToInt, n_1, n_2, n_8, Int32.toNatClampNeg, Int64.lt_iff_toInt_lt, Int64.le_iff_toInt_le, ← Int64.toInt_inj, Int64.reduceToInt, Int32.toInt_toInt64, lg_cmp_ge, lg_cmp_le, lg_cmp_gt, lg_cmp_lt, lg_cmp_eq, Bool.false_eq_true, Bool.true_eq_false, reduceCtorEq, false_iff, true_iff, iff_true, iff_false, and_true, true_and, and_false, false_and, reduceIte, ite_true, ite_false, eq_self] at *)) <;> omega) _ _ _ ⟨(by ((try simp only [vp_in_iff, Int32.lt_iff_toInt_lt, Int32.le_iff_toInt_le, ← Int32.toInt_inj, Int32.reduceToInt, n_1, n_2, n_8, Int32.toNatClampNeg, Int64.lt_iff_toInt_lt, Int64.le_iff_toInt_le, ← Int64.toInt_inj, Int64.reduceToInt, Int32.toInt_toInt64, lg_cmp_ge, lg_cmp_le, lg_cmp_gt, lg_cmp_lt, lg_cmp_eq, Bool.false_eq_true, Bool.true_eq_false, reduceCtorEq, false_iff, true_iff, iff_true, iff_false, and_true, true_and, and_false, false_and, reduceIte, ite_true, ite_false, eq_self] at *)) <;> omega), trivial⟩ rfl
      exact hi32 _ _ _ _ ⟨(by ((try simp only [vp_in_iff, Int32.lt_iff_toInt_lt, Int32.le_iff_toInt_le, ← Int32.toInt_inj, Int32.reduceToInt, n_1, n_2, n_8, Int32.toNatClampNeg, Int64.lt_iff_toInt_lt, Int64.le_iff_toInt_le, ← Int64.toInt_inj, Int64.reduceToInt, Int32.toInt_toInt64, lg_cmp_ge, lg_cmp_le, lg_cmp_gt, lg_cmp_lt, lg_cmp_eq, Bool.false_eq_true, Bool.true_eq_false, reduceCtorEq, false_iff, true_iff, iff_true, iff_false, and_true, true_and, and_false, false_and, reduceIte, ite_true, ite_false, eq_self] at *)) <;> omega), trivial⟩ rfl
set_option maxHeartbeats 4000000 in
theorem sp_X4_combine (G : kG9) {d : Nat} (hd : 1 ≤ d) (σ : St) (a0 : Int32) (a1 : Int32) (a2 : Int32) (a3 : Int32) (p1 : 0 ≤ a0.toInt ∧ a0.toInt ≤ 1914) (p2 : 0 ≤ a1.toInt ∧ a1.toInt ≤ 1914) (p3 : 0 ≤ a3.toInt ∧ a3.toInt ≤ 1914) : Ct G M_X4_combine d [.ref 25, .int a0, .int a1, .int a2, .int a3] σ (fun r σ' => Fm [26] [] σ σ' ∧ True) := by
  refine wa_start (by decide) rfl (Nat.le_of_ble_eq_true rfl) (lv := [(0, .ref 25), (1, .int a0), (2, .int a1), (3, .int a2), (4, .int a3)]) rfl o_X4_combine_0 rfl ?_
  have ua0 := Int32.toInt_lt a0
  have wa0 := Int32.le_toInt a0
  have ua1 := Int32.toInt_lt a1
  have wa1 := Int32.le_toInt a1
  have ua2 := Int32.toInt_lt a2
  have wa2 := Int32.le_toInt a2
  have ua3 := Int32.toInt_lt a3
  have wa3 := Int32.le_toInt a3
  refine wa_lconst (v := 1) (by decide) ?_
  refine wa_aload_n (i := 0) rfl rfl ?_
  refine wa_getr ck_4 fl_4_11 ly_25 rf_25_1 ?_
  refine wa_iload_n (i := 1) rfl rfl ?_
  refine wa_iconst (v := 5) (by decide) ?_
  refine wa_iadd ?_
  refine wa_top (fun v1 hv1 => ?_)
  have tv1 := i_addT hv1
  clear hv1
  refine wa_lald ly_26 (by ((try simp only [vp_in_iff, Int32.lt_iff_toInt_lt, Int32.le_iff_toInt_le, ← Int32.toInt_inj, Int32.reduceToInt, n_1, n_2, n_8, Int32.toNatClampNeg, Int64.lt_iff_toInt_lt, Int64.le_iff_toInt_le, ← Int64.toInt_inj, Int64.reduceToInt, Int32.toInt_toInt64, lg_cmp_ge, lg_cmp_le, lg_cmp_gt, lg_cmp_lt, lg_cmp_eq, Bool.false_eq_true, Bool.true_eq_false, reduceCtorEq, false_iff, true_iff, iff_true, iff_false, and_true, true_and, and_false, false_and, reduceIte, ite_true, ite_false, eq_self] at *)) <;> omega) ?_
  refine wa_maxL zs (allW_in (kT_5 _ (List.mem_of_getElem? (i := 94) rfl)) rfl) (Nat.le_of_ble_eq_true rfl) ?_
  refine wa_topl (fun v2 hv2 => ?_)
  have tv2 := i_maxL hv2
  clear hv2
  refine wa_lstoreD (lv' := [(5, .long v2), (0, .ref 25), (1, .int a0), (2, .int a1), (3, .int a2), (4, .int a3)]) (by decide) rfl ?_
  refine wa_lconst (v := 1) (by decide) ?_
  refine wa_aload_n (i := 0) rfl rfl ?_
  refine wa_getr ck_4 fl_4_11 ly_25 rf_25_1 ?_
  refine wa_iload_n (i := 2) rfl rfl ?_
  refine wa_iconst (v := 5) (by decide) ?_
  refine wa_iadd ?_
  refine wa_top (fun v3 hv3 => ?_)
  have tv3 := i_addT hv3
  clear hv3
  refine wa_lald ly_26 (by ((try simp only [vp_in_iff, Int32.lt_iff_toInt_lt, Int32.le_iff_toInt_le, ← Int32.toInt_inj, Int32.reduceToInt, n_1, n_2, n_8, Int32.toNatClampNeg, Int64.lt_iff_toInt_lt, Int64.le_iff_toInt_le, ← Int64.toInt_inj, Int64.reduceToInt, Int32.toInt_toInt64, lg_cmp_ge, lg_cmp_le, lg_cmp_gt, lg_cmp_lt, lg_cmp_eq, Bool.false_eq_true, Bool.true_eq_false, reduceCtorEq, false_iff, true_iff, iff_true, iff_false, and_true, true_and, and_false, false_and, reduceIte, ite_true, ite_false, eq_self] at *)) <;> omega) ?_
  refine wa_maxL zs (allW_in (kT_5 _ (List.mem_of_getElem? (i := 94) rfl)) rfl) (Nat.le_of_ble_eq_true rfl) ?_
  refine wa_topl (fun v4 hv4 => ?_)
  have tv4 := i_maxL hv4
  clear hv4
  refine wa_lstoreD (lv' := [(7, .long v4), (5, .long v2), (0, .ref 25), (1, .int a0), (2, .int a1), (3, .int a2), (4, .int a3)]) (by decide) rfl ?_
  refine wa_lload rfl ?_
  refine wa_lconst (v := 1) (by decide) ?_
  refine wa_lload rfl ?_
  refine wa_lload rfl ?_
  refine wa_Sl (d9 := d - 1) [.long _, .long _] [.long 1, .long v2] (sp_X11_commonDivisor G (d := d - 1) (by omega) σ _ _) (rfl) rfl rfl (zr (by omega)) mk_X11_commonDivisor ml_4_176 (Nat.le_of_ble_eq_true rfl) (fun x6 s5 hs5 => ?_)
  obtain ⟨zs5, -⟩ := pL hs5
  subst zs5
  refine wa_maxL zs (allW_in (kT_5 _ (List.mem_of_getElem? (i := 94) rfl)) rfl) (Nat.le_of_ble_eq_true rfl) ?_
  refine wa_topl (fun v7 hv7 => ?_)
  have tv7 := i_maxL hv7
  clear hv7
  refine wa_ldiv (by ((try simp only [vp_in_iff, Int32.lt_iff_toInt_lt, Int32.le_iff_toInt_le, ← Int32.toInt_inj, Int32.reduceToInt, n_1, n_2, n_8, Int32.toNatClampNeg, Int64.lt_iff_toInt_lt, Int64.le_iff_toInt_le, ← Int64.toInt_inj, Int64.reduceToInt, Int32.toInt_toInt64, lg_cmp_ge, lg_cmp_le, lg_cmp_gt, lg_cmp_lt, lg_cmp_eq, Bool.false_eq_true, Bool.true_eq_false, reduceCtorEq, false_iff, true_iff, iff_true, iff_false, and_true, true_and, and_false, false_and, reduceIte, ite_true, ite_false, eq_self] at *)) <;> omega) ?_
  refine wa_topl (fun v8 hv8 => ?_)
  clear hv8
  refine wa_lload rfl ?_
  refine wa_lmul ?_
  refine wa_topl (fun v9 hv9 => ?_)
  clear hv9
  refine wa_lstoreD (lv' := [(9, .long v9), (7, .long v4), (5, .long v2), (0, .ref 25), (1, .int a0), (2, .int a1), (3, .int a2), (4, .int a3)]) (by decide) rfl ?_
  refine wa_iconst (v := 0) (by decide) ?_
  refine wa_istoreD (lv' := [(11, .int 0), (9, .long v9), (7, .long v4), (5, .long v2), (0, .ref 25), (1, .int a0), (2, .int a1), (3, .int a2), (4, .int a3)]) (by decide) rfl ?_
  refine wa_pick [4, 5, 6, 7, 8, 3, 2, 1, 0] rfl ?_
  have hi12 : ∀ (n9_50 : Nat) (l11 : Int32) (s10 : St), ((Fm [26] [] σ s10) ∧ (0 ≤ l11.toInt) ∧ (True)) → (2147483647 - l11.toInt).toNat = n9_50 → WA G M_X4_combine (ZM G M_X4_combine d (fun r σ' => Fm [26] [] σ σ' ∧ True)) B_X4_combine_50 [(0, .ref 25), (1, .int a0), (2, .int a1), (3, .int a2), (4, .int a3), (5, .long v2), (7, .long v4), (9, .long v9), (11, .int l11)] [] s10 := by
    intro n9_50
    induction n9_50 using Nat.strongRecOn with
    | _ n9_50 ih11 =>
      intro l11 s10 i9 m9_50
      obtain ⟨Fs10, jhi12_0, -⟩ := i9
      have ul11 := Int32.toInt_lt l11
      have wl11 := Int32.le_toInt l11
      refine wa_iload rfl ?_
      refine wa_iconst (v := 5) (by decide) ?_
      refine wa_icmp_ge o_X4_combine_106 (by decide) (fun h13 => ?_) (fun h13 => ?_)
      · refine wa_aload_n (i := 0) rfl rfl ?_
        refine wa_getr ck_4 fl_4_11 ly_25 rf_25_1 ?_
        refine wa_iload rfl ?_
        refine wa_iconst (v := 5) (by decide) ?_
        refine wa_iadd ?_
        refine wa_top (fun v14 hv14 => ?_)
        have tv14 := i_addT hv14
        clear hv14
        refine wa_lload rfl ?_
        refine wa_last ly_26 (by ((try simp only [vp_in_iff, Int32.lt_iff_toInt_lt, Int32.le_iff_toInt_le, ← Int32.toInt_inj, Int32.reduceToInt, n_1, n_2, n_8, Int32.toNatClampNeg, Int64.lt_iff_toInt_lt, Int64.le_iff_toInt_le, ← Int64.toInt_inj, Int64.reduceToInt, Int32.toInt_toInt64, lg_cmp_ge, lg_cmp_le, lg_cmp_gt, lg_cmp_lt, lg_cmp_eq, Bool.false_eq_true, Bool.true_eq_false, reduceCtorEq, false_iff, true_iff, iff_true, iff_false, and_true, true_and, and_false, false_and, reduceIte, ite_true, ite_false, eq_self] at *)) <;> omega) (fun s15 hs15 => ?_)
        have Fs15 : Fm [26] [] σ s15 := by rw [hs15]; exact Fm.sl Fs10 rfl
        refine wa_return (st := []) rfl rfl ?_
        exact ⟨Fs15, trivial⟩
      · have mh13 := nle_mx h13
        refine wa_aload_n (i := 0) rfl rfl ?_
        refine wa_getr ck_4 fl_4_11 ly_25 rf_25_1 ?_
        refine wa_iload rfl ?_
        refine wa_iload rfl ?_
        refine wa_iadd ?_
        refine wa_top (fun v16 hv16 => ?_)
        have tv16 := i_addT hv16
        clear hv16
        refine wa_aload_n (i := 0) rfl rfl ?_
        refine wa_getr ck_4 fl_4_11 ly_25 rf_25_1 ?_
        refine wa_iload_n (i := 1) rfl rfl ?_
        refine wa_iload rfl ?_
        refine wa_iadd ?_
        refine wa_top (fun v17 hv17 => ?_)
        have tv17 := i_addT hv17
        clear hv17
        refine wa_lald ly_26 (by ((try simp only [vp_in_iff, Int32.lt_iff_toInt_lt, Int32.le_iff_toInt_le, ← Int32.toInt_inj, Int32.reduceToInt, n_1, n_2, n_8, Int32.toNatClampNeg, Int64.lt_iff_toInt_lt, Int64.le_iff_toInt_le, ← Int64.toInt_inj, Int64.reduceToInt, Int32.toInt_toInt64, lg_cmp_ge, lg_cmp_le, lg_cmp_gt, lg_cmp_lt, lg_cmp_eq, Bool.false_eq_true, Bool.true_eq_false, reduceCtorEq, false_iff, true_iff, iff_true, iff_false, and_true, true_and, and_false, false_and, reduceIte, ite_true, ite_false, eq_self] at *)) <;> omega) ?_
        refine wa_lload rfl ?_
        refine wa_lload rfl ?_
        refine wa_ldiv (by ((try simp only [vp_in_iff, Int32.lt_iff_toInt_lt, Int32.le_iff_toInt_le, ← Int32.toInt_inj, Int32.reduceToInt, n_1, n_2, n_8, Int32.toNatClampNeg, Int64.lt_iff_toInt_lt, Int64.le_iff_toInt_le, ← Int64.toInt_inj, Int64.reduceToInt, Int32.toInt_toInt64, lg_cmp_ge, lg_cmp_le, lg_cmp_gt, lg_cmp_lt, lg_cmp_eq, Bool.false_eq_true, Bool.true_eq_false, reduceCtorEq, false_iff, true_iff, iff_true, iff_false, and_true, true_and, and_false, false_and, reduceIte, ite_true, ite_false, eq_self] at *)) <;> omega) ?_
        refine wa_topl (fun v18 hv18 => ?_)
        clear hv18
        refine wa_lmul ?_
        refine wa_topl (fun v19 hv19 => ?_)
        clear hv19
        refine wa_iload_n (i := 3) rfl rfl ?_
        refine wa_i2l ?_
        refine wa_aload_n (i := 0) rfl rfl ?_
        refine wa_getr ck_4 fl_4_11 ly_25 rf_25_1 ?_
        refine wa_iload_n (i := 2) rfl rfl ?_
        refine wa_iload rfl ?_
        refine wa_iadd ?_
        refine wa_top (fun v20 hv20 => ?_)
        have tv20 := i_addT hv20
        clear hv20
        refine wa_lald ly_26 (by ((try simp only [vp_in_iff, Int32.lt_iff_toInt_lt, Int32.le_iff_toInt_le, ← Int32.toInt_inj, Int32.reduceToInt, n_1, n_2, n_8, Int32.toNatClampNeg, Int64.lt_iff_toInt_lt, Int64.le_iff_toInt_le, ← Int64.toInt_inj, Int64.reduceToInt, Int32.toInt_toInt64, lg_cmp_ge, lg_cmp_le, lg_cmp_gt, lg_cmp_lt, lg_cmp_eq, Bool.false_eq_true, Bool.true_eq_false, reduceCtorEq, false_iff, true_iff, iff_true, iff_false, and_true, true_and, and_false, false_and, reduceIte, ite_true, ite_false, eq_self] at *)) <;> omega) ?_
        refine wa_lmul ?_
        refine wa_topl (fun v21 hv21 => ?_)
        clear hv21
        refine wa_lload rfl ?_
        refine wa_lload rfl ?_
        refine wa_ldiv (by ((try simp only [vp_in_iff, Int32.lt_iff_toInt_lt, Int32.le_iff_toInt_le, ← Int32.toInt_inj, Int32.reduceToInt, n_1, n_2, n_8, Int32.toNatClampNeg, Int64.lt_iff_toInt_lt, Int64.le_iff_toInt_le, ← Int64.toInt_inj, Int64.reduceToInt, Int32.toInt_toInt64, lg_cmp_ge, lg_cmp_le, lg_cmp_gt, lg_cmp_lt, lg_cmp_eq, Bool.false_eq_true, Bool.true_eq_false, reduceCtorEq, false_iff, true_iff, iff_true, iff_false, and_true, true_and, and_false, false_and, reduceIte, ite_true, ite_false, eq_self] at *)) <;> omega) ?_
        refine wa_topl (fun v22 hv22 => ?_)
        clear hv22
        refine wa_lmul ?_
        refine wa_topl (fun v23 hv23 => ?_)
        clear hv23
        refine wa_ladd ?_
        refine wa_topl (fun v24 hv24 => ?_)
        clear hv24
        refine wa_last ly_26 (by ((try simp only [vp_in_iff, Int32.lt_iff_toInt_lt, Int32.le_iff_toInt_le, ← Int32.toInt_inj, Int32.reduceToInt, n_1, n_2, n_8, Int32.toNatClampNeg, Int64.lt_iff_toInt_lt, Int64.le_iff_toInt_le, ← Int64.toInt_inj, Int64.reduceToInt, Int32.toInt_toInt64, lg_cmp_ge, lg_cmp_le, lg_cmp_gt, lg_cmp_lt, lg_cmp_eq, Bool.false_eq_true, Bool.true_eq_false, reduceCtorEq, false_iff, true_iff, iff_true, iff_false, and_true, true_and, and_false, false_and, reduceIte, ite_true, ite_false, eq_self] at *)) <;> omega) (fun s25 hs25 => ?_)
        have Fs25 : Fm [26] [] σ s25 := by rw [hs25]; exact Fm.sl Fs10 rfl
        refine wa_iinc (v := (1)) (lv' := fun y26 => [(11, .int y26), (0, .ref 25), (1, .int a0), (2, .int a1), (3, .int a2), (4, .int a3), (5, .long v2), (7, .long v4), (9, .long v9)]) (by decide) rfl (by decide) (fun _ => rfl) (fun y26 hy26 => ?_)
        have ty26 := i_addT hy26.symm
        clear hy26
        refine wa_goto o_X4_combine_50 (by decide) ?_
        refine wa_pick [1, 2, 3, 4, 5, 6, 7, 8, 0] rfl ?_
        exact ih11 _ (by ((try simp only [vp_in_iff, Int32.lt_iff_toInt_lt, Int32.le_iff_toInt_le, ← Int32.toInt_inj, Int32.reduceToInt, n_1, n_2, n_8, Int32.toNatClampNeg, Int64.lt_iff_toInt_lt, Int64.le_iff_toInt_le, ← Int64.toInt_inj, Int64.reduceToInt, Int32.toInt_toInt64, lg_cmp_ge, lg_cmp_le, lg_cmp_gt, lg_cmp_lt, lg_cmp_eq, Bool.false_eq_true, Bool.true_eq_false, reduceCtorEq, false_iff, true_iff, iff_true, iff_false, and_true, true_and, and_false, false_and, reduceIte, ite_true, ite_false, eq_self] at *)) <;> omega) _ _ ⟨Fs25, (by ((try simp only [vp_in_iff, Int32.lt_iff_toInt_lt, Int32.le_iff_toInt_le, ← Int32.toInt_inj, Int32.reduceToInt, n_1, n_2, n_8, Int32.toNatClampNeg, Int64.lt_iff_toInt_lt, Int64.le_iff_toInt_le, ← Int64.toInt_inj, Int64.reduceToInt, Int32.toInt_toInt64, lg_cmp_ge, lg_cmp_le, lg_cmp_gt, lg_cmp_lt, lg_cmp_eq, Bool.false_eq_true, Bool.true_eq_false, reduceCtorEq, false_iff, true_iff, iff_true, iff_false, and_true, true_and, and_false, false_and, reduceIte, ite_true, ite_false, eq_self] at *)) <;> omega), trivial⟩ rfl
  exact hi12 _ _ _ ⟨(Fm.rf [26] [] σ), (by ((try simp only [vp_in_iff, Int32.lt_iff_toInt_lt, Int32.le_iff_toInt_le, ← Int32.toInt_inj, Int32.reduceToInt, n_1, n_2, n_8, Int32.toNatClampNeg, Int64.lt_iff_toInt_lt, Int64.le_iff_toInt_le, ← Int64.toInt_inj, Int64.reduceToInt, Int32.toInt_toInt64, lg_cmp_ge, lg_cmp_le, lg_cmp_gt, lg_cmp_lt, lg_cmp_eq, Bool.false_eq_true, Bool.true_eq_false, reduceCtorEq, false_iff, true_iff, iff_true, iff_false, and_true, true_and, and_false, false_and, reduceIte, ite_true, ite_false, eq_self] at *)) <;> omega), trivial⟩ rfl
set_option maxHeartbeats 4000000 in
theorem sp_X4_check (G : kG9) {d : Nat} (hd : 0 ≤ d) (σ : St) (a0 : Int32) (p1 : 0 ≤ a0.toInt ∧ a0.toInt ≤ 1914) : Ct G M_X4_check d [.ref 25, .int a0] σ (fun r σ' => Fm [25] [] σ σ' ∧ True) := by
  refine wa_start (by decide) rfl (Nat.le_of_ble_eq_true rfl) (lv := [(0, .ref 25), (1, .int a0)]) rfl o_X4_check_0 rfl ?_
  have ua0 := Int32.toInt_lt a0
  have wa0 := Int32.le_toInt a0
  refine wa_iconst (v := 0) (by decide) ?_
  refine wa_istore_nD (lv' := [(2, .int 0), (0, .ref 25), (1, .int a0)]) (i := 2) rfl (by decide) rfl ?_
  refine wa_pick [1, 2, 0] rfl ?_
  have hi3 : ∀ (n9_2 : Nat) (l2 : Int32) (s1 : St), ((Fm [25] [] σ s1) ∧ (0 ≤ l2.toInt) ∧ (True)) → (2147483647 - l2.toInt).toNat = n9_2 → WA G M_X4_check (ZM G M_X4_check d (fun r σ' => Fm [25] [] σ σ' ∧ True)) B_X4_check_2 [(0, .ref 25), (1, .int a0), (2, .int l2)] [] s1 := by
    intro n9_2
    induction n9_2 using Nat.strongRecOn with
    | _ n9_2 ih2 =>
      intro l2 s1 i9 m9_2
      obtain ⟨Fs1, jhi3_0, -⟩ := i9
      have ul2 := Int32.toInt_lt l2
      have wl2 := Int32.le_toInt l2
      refine wa_iload_n (i := 2) rfl rfl ?_
      refine wa_iconst (v := 5) (by decide) ?_
      refine wa_icmp_ge o_X4_check_45 (by decide) (fun h4 => ?_) (fun h4 => ?_)
      · refine wa_return (st := []) rfl rfl ?_
        exact ⟨Fs1, trivial⟩
      · have mh4 := nle_mx h4
        refine wa_aload_n (i := 0) rfl rfl ?_
        refine wa_dup rfl ?_
        refine wa_getz ck_4 fl_4_61 ly_25 ?_
        refine wa_aload_n (i := 0) rfl rfl ?_
        refine wa_getr ck_4 fl_4_11 ly_25 rf_25_1 ?_
        refine wa_iload_n (i := 1) rfl rfl ?_
        refine wa_iload_n (i := 2) rfl rfl ?_
        refine wa_iadd ?_
        refine wa_top (fun v5 hv5 => ?_)
        have tv5 := i_addT hv5
        clear hv5
        refine wa_lald ly_26 (by ((try simp only [vp_in_iff, Int32.lt_iff_toInt_lt, Int32.le_iff_toInt_le, ← Int32.toInt_inj, Int32.reduceToInt, n_1, n_2, n_8, Int32.toNatClampNeg, Int64.lt_iff_toInt_lt, Int64.le_iff_toInt_le, ← Int64.toInt_inj, Int64.reduceToInt, Int32.toInt_toInt64, lg_cmp_ge, lg_cmp_le, lg_cmp_gt, lg_cmp_lt, lg_cmp_eq, Bool.false_eq_true, Bool.true_eq_false, reduceCtorEq, false_iff, true_iff, iff_true, iff_false, and_true, true_and, and_false, false_and, reduceIte, ite_true, ite_false, eq_self] at *)) <;> omega) ?_
        refine wa_absL zs (allW_in (kT_5 _ (List.mem_of_getElem? (i := 49) rfl)) rfl) (Nat.le_of_ble_eq_true rfl) ?_
        refine wa_topl (fun v6 hv6 => ?_)
        have tv6 := i_absL hv6
        clear hv6
        refine wa_ldc2 (v := (1000000)) (allW_in (kT_5 _ (List.mem_of_getElem? (i := 104) rfl)) rfl) ?_
        refine wa_lcmp ?_
        refine wa_top (fun v7 hv7 => ?_)
        have tv7 := i_cmpT hv7
        clear hv7
        refine wa_if_le o_X4_check_34 (by decide) (fun h8 => ?_) (fun h8 => ?_)
        · refine wa_iconst (v := 0) (by decide) ?_
          refine wa_ior ?_
          refine wa_rw (bI_or (a := (gb s1 25 7)) (b := false) rfl rfl) ?_
          refine wa_putz ((gb s1 25 7) || false) (rfl) ck_4 fl_4_61 ly_25 (fun s9 hs9 => ?_)
          have Fs9 : Fm [25] [] σ s9 := by rw [hs9]; exact Fm.sb Fs1 rfl
          refine wa_iinc (v := (1)) (lv' := fun y10 => [(2, .int y10), (0, .ref 25), (1, .int a0)]) (by decide) rfl (by decide) (fun _ => rfl) (fun y10 hy10 => ?_)
          have ty10 := i_addT hy10.symm
          clear hy10
          refine wa_goto o_X4_check_2 (by decide) ?_
          refine wa_pick [1, 2, 0] rfl ?_
          exact ih2 _ (by ((try simp only [vp_in_iff, Int32.lt_iff_toInt_lt, Int32.le_iff_toInt_le, ← Int32.toInt_inj, Int32.reduceToInt, n_1, n_2, n_8, Int32.toNatClampNeg, Int64.lt_iff_toInt_lt, Int64.le_iff_toInt_le, ← Int64.toInt_inj, Int64.reduceToInt, Int32.toInt_toInt64, lg_cmp_ge, lg_cmp_le, lg_cmp_gt, lg_cmp_lt, lg_cmp_eq, Bool.false_eq_true, Bool.true_eq_false, reduceCtorEq, false_iff, true_iff, iff_true, iff_false, and_true, true_and, and_false, false_and, reduceIte, ite_true, ite_false, eq_self] at *)) <;> omega) _ _ ⟨Fs9, (by ((try simp only [vp_in_iff, Int32.lt_iff_toInt_lt, Int32.le_iff_toInt_le, ← Int32.toInt_inj, Int32.reduceToInt, n_1, n_2, n_8, Int32.toNatClampNeg, Int64.lt_iff_toInt_lt, Int64.le_iff_toInt_le, ← Int64.toInt_inj, Int64.reduceToInt, Int32.toInt_toInt64, lg_cmp_ge, lg_cmp_le, lg_cmp_gt, lg_cmp_lt, lg_cmp_eq, Bool.false_eq_true, Bool.true_eq_false, reduceCtorEq, false_iff, true_iff, iff_true, iff_false, and_true, true_and, and_false, false_and, reduceIte, ite_true, ite_false, eq_self] at *)) <;> omega), trivial⟩ rfl
        · refine wa_iconst (v := 1) (by decide) ?_
          refine wa_goto o_X4_check_35 (by decide) ?_
          refine wa_ior ?_
          refine wa_rw (bI_or (a := (gb s1 25 7)) (b := true) rfl rfl) ?_
          refine wa_putz ((gb s1 25 7) || true) (rfl) ck_4 fl_4_61 ly_25 (fun s11 hs11 => ?_)
          have Fs11 : Fm [25] [] σ s11 := by rw [hs11]; exact Fm.sb Fs1 rfl
          refine wa_iinc (v := (1)) (lv' := fun y12 => [(2, .int y12), (0, .ref 25), (1, .int a0)]) (by decide) rfl (by decide) (fun _ => rfl) (fun y12 hy12 => ?_)
          have ty12 := i_addT hy12.symm
          clear hy12
          refine wa_goto o_X4_check_2 (by decide) ?_
          refine wa_pick [1, 2, 0] rfl ?_
          exact ih2 _ (by ((try simp only [vp_in_iff, Int32.lt_iff_toInt_lt, Int32.le_iff_toInt_le, ← Int32.toInt_inj, Int32.reduceToInt, n_1, n_2, n_8, Int32.toNatClampNeg, Int64.lt_iff_toInt_lt, Int64.le_iff_toInt_le, ← Int64.toInt_inj, Int64.reduceToInt, Int32.toInt_toInt64, lg_cmp_ge, lg_cmp_le, lg_cmp_gt, lg_cmp_lt, lg_cmp_eq, Bool.false_eq_true, Bool.true_eq_false, reduceCtorEq, false_iff, true_iff, iff_true, iff_false, and_true, true_and, and_false, false_and, reduceIte, ite_true, ite_false, eq_self] at *)) <;> omega) _ _ ⟨Fs11, (by ((try simp only [vp_in_iff, Int32.lt_iff_toInt_lt, Int32.le_iff_toInt_le, ← Int32.toInt_inj, Int32.reduceToInt, n_1, n_2, n_8, Int32.toNatClampNeg, Int64.lt_iff_toInt_lt, Int64.le_iff_toInt_le, ← Int64.toInt_inj, Int64.reduceToInt, Int32.toInt_toInt64, lg_cmp_ge, lg_cmp_le, lg_cmp_gt, lg_cmp_lt, lg_cmp_eq, Bool.false_eq_true, Bool.true_eq_false, reduceCtorEq, false_iff, true_iff, iff_true, iff_false, and_true, true_and, and_false, false_and, reduceIte, ite_true, ite_false, eq_self] at *)) <;> omega), trivial⟩ rfl
  exact hi3 _ _ _ ⟨(Fm.rf [25] [] σ), (by ((try simp only [vp_in_iff, Int32.lt_iff_toInt_lt, Int32.le_iff_toInt_le, ← Int32.toInt_inj, Int32.reduceToInt, n_1, n_2, n_8, Int32.toNatClampNeg, Int64.lt_iff_toInt_lt, Int64.le_iff_toInt_le, ← Int64.toInt_inj, Int64.reduceToInt, Int32.toInt_toInt64, lg_cmp_ge, lg_cmp_le, lg_cmp_gt, lg_cmp_lt, lg_cmp_eq, Bool.false_eq_true, Bool.true_eq_false, reduceCtorEq, false_iff, true_iff, iff_true, iff_false, and_true, true_and, and_false, false_and, reduceIte, ite_true, ite_false, eq_self] at *)) <;> omega), trivial⟩ rfl
set_option maxHeartbeats 4000000 in
theorem sp_X4_splitOrder (G : kG9) {d : Nat} (hd : 2 ≤ d) (σ : St) (a0 : Int32) (a1 : Int32) (a2 : Int32) : Ct G M_X4_splitOrder d [.ref 25, .int a0, .int a1, .int a2] σ (fun r σ' => Fm [7, 8, 9, 10, 11, 12, 13, 14, 15, 25, 26, 27, 28] [] σ σ' ∧ True) := by
  refine wa_start (by decide) rfl (Nat.le_of_ble_eq_true rfl) (lv := [(0, .ref 25), (1, .int a0), (2, .int a1), (3, .int a2)]) rfl o_X4_splitOrder_0 rfl ?_
  have ua0 := Int32.toInt_lt a0
  have wa0 := Int32.le_toInt a0
  have ua1 := Int32.toInt_lt a1
  have wa1 := Int32.le_toInt a1
  have ua2 := Int32.toInt_lt a2
  have wa2 := Int32.le_toInt a2
  refine wa_aload_n (i := 0) rfl rfl ?_
  refine wa_iload_n (i := 1) rfl rfl ?_
  refine wa_Vi (d9 := d - 1) [.int _] [] (sp_X4_top G (d := d - 1) (by omega) σ _) (rfl) rfl rfl (zr (by omega)) mk_X4_top ly_25 ml_4_137 (Nat.le_of_ble_eq_true rfl) (fun x2 s1 hs1 => ?_)
  obtain ⟨zs1, -⟩ := pI hs1
  subst zs1
  refine wa_iconst (v := 1) (by decide) ?_
  refine wa_isub ?_
  refine wa_top (fun v3 hv3 => ?_)
  have tv3 := i_subT hv3
  clear hv3
  refine wa_istoreD (lv' := [(4, .int v3), (0, .ref 25), (1, .int a0), (2, .int a1), (3, .int a2)]) (by decide) rfl ?_
  refine wa_iload_n (i := 1) rfl rfl ?_
  refine wa_iload rfl ?_
  refine wa_iconst (v := 1) (by decide) ?_
  refine wa_iadd ?_
  refine wa_top (fun v4 hv4 => ?_)
  have tv4 := i_addT hv4
  clear hv4
  refine wa_Si (d9 := d - 1) [.int _, .int _] [] (sp_X4_form G (d := d - 1) (by omega) σ _ _) (rfl) rfl rfl (zr (by omega)) mk_X4_form ml_4_95 (Nat.le_of_ble_eq_true rfl) (fun x6 s5 hs5 => ?_)
  obtain ⟨zs5, cx6_1, -⟩ := pI hs5
  subst zs5
  refine wa_istoreD (lv' := [(5, .int x6), (4, .int v3), (0, .ref 25), (1, .int a0), (2, .int a1), (3, .int a2)]) (by decide) rfl ?_
  refine wa_aload_n (i := 0) rfl rfl ?_
  refine wa_iload_n (i := 1) rfl rfl ?_
  refine wa_iload rfl ?_
  refine wa_iconst (v := 1) (by decide) ?_
  refine wa_isub ?_
  refine wa_top (fun v7 hv7 => ?_)
  have tv7 := i_subT hv7
  clear hv7
  refine wa_Si (d9 := d - 1) [.int _, .int _] [.ref 25] (sp_X4_form G (d := d - 1) (by omega) σ _ _) (rfl) rfl rfl (zr (by omega)) mk_X4_form ml_4_95 (Nat.le_of_ble_eq_true rfl) (fun x9 s8 hs8 => ?_)
  obtain ⟨zs8, cx9_1, -⟩ := pI hs8
  subst zs8
  refine wa_iload_n (i := 1) rfl rfl ?_
  refine wa_iload rfl ?_
  refine wa_Si (d9 := d - 1) [.int _, .int _] [.int x9, .ref 25] (sp_X4_form G (d := d - 1) (by omega) σ _ _) (rfl) rfl rfl (zr (by omega)) mk_X4_form ml_4_95 (Nat.le_of_ble_eq_true rfl) (fun x11 s10 hs10 => ?_)
  obtain ⟨zs10, cx11_1, -⟩ := pI hs10
  subst zs10
  refine wa_iconst (v := (-1)) (by decide) ?_
  refine wa_iload rfl ?_
  refine wa_Vv (d9 := d - 1) [.int _, .int _, .int _, .int _] [] (sp_X4_combine G (d := d - 1) (by omega) σ _ _ _ _ (by ((try simp only [vp_in_iff, Int32.lt_iff_toInt_lt, Int32.le_iff_toInt_le, ← Int32.toInt_inj, Int32.reduceToInt, n_1, n_2, n_8, Int32.toNatClampNeg, Int64.lt_iff_toInt_lt, Int64.le_iff_toInt_le, ← Int64.toInt_inj, Int64.reduceToInt, Int32.toInt_toInt64, lg_cmp_ge, lg_cmp_le, lg_cmp_gt, lg_cmp_lt, lg_cmp_eq, Bool.false_eq_true, Bool.true_eq_false, reduceCtorEq, false_iff, true_iff, iff_true, iff_false, and_true, true_and, and_false, false_and, reduceIte, ite_true, ite_false, eq_self] at *)) <;> omega) (by ((try simp only [vp_in_iff, Int32.lt_iff_toInt_lt, Int32.le_iff_toInt_le, ← Int32.toInt_inj, Int32.reduceToInt, n_1, n_2, n_8, Int32.toNatClampNeg, Int64.lt_iff_toInt_lt, Int64.le_iff_toInt_le, ← Int64.toInt_inj, Int64.reduceToInt, Int32.toInt_toInt64, lg_cmp_ge, lg_cmp_le, lg_cmp_gt, lg_cmp_lt, lg_cmp_eq, Bool.false_eq_true, Bool.true_eq_false, reduceCtorEq, false_iff, true_iff, iff_true, iff_false, and_true, true_and, and_false, false_and, reduceIte, ite_true, ite_false, eq_self] at *)) <;> omega) (by ((try simp only [vp_in_iff, Int32.lt_iff_toInt_lt, Int32.le_iff_toInt_le, ← Int32.toInt_inj, Int32.reduceToInt, n_1, n_2, n_8, Int32.toNatClampNeg, Int64.lt_iff_toInt_lt, Int64.le_iff_toInt_le, ← Int64.toInt_inj, Int64.reduceToInt, Int32.toInt_toInt64, lg_cmp_ge, lg_cmp_le, lg_cmp_gt, lg_cmp_lt, lg_cmp_eq, Bool.false_eq_true, Bool.true_eq_false, reduceCtorEq, false_iff, true_iff, iff_true, iff_false, and_true, true_and, and_false, false_and, reduceIte, ite_true, ite_false, eq_self] at *)) <;> omega)) (rfl) rfl rfl (zr (by omega)) mk_X4_combine ly_25 ml_4_153 (Nat.le_of_ble_eq_true rfl) (fun s12 hs12 => ?_)
  obtain ⟨fs12, -⟩ := hs12
  have Fs12 : Fm [7, 8, 9, 10, 11, 12, 13, 14, 15, 25, 26, 27, 28] [] σ s12 := Fm.tr (Fm.rf [7, 8, 9, 10, 11, 12, 13, 14, 15, 25, 26, 27, 28] [] σ) (Fm.wd fs12 rfl rfl)
  refine wa_aload_n (i := 0) rfl rfl ?_
  refine wa_iload rfl ?_
  refine wa_Vv (d9 := d - 1) [.int _] [] (sp_X4_check G (d := d - 1) (by omega) s12 _ (by ((try simp only [vp_in_iff, Int32.lt_iff_toInt_lt, Int32.le_iff_toInt_le, ← Int32.toInt_inj, Int32.reduceToInt, n_1, n_2, n_8, Int32.toNatClampNeg, Int64.lt_iff_toInt_lt, Int64.le_iff_toInt_le, ← Int64.toInt_inj, Int64.reduceToInt, Int32.toInt_toInt64, lg_cmp_ge, lg_cmp_le, lg_cmp_gt, lg_cmp_lt, lg_cmp_eq, Bool.false_eq_true, Bool.true_eq_false, reduceCtorEq, false_iff, true_iff, iff_true, iff_false, and_true, true_and, and_false, false_and, reduceIte, ite_true, ite_false, eq_self] at *)) <;> omega)) (rfl) rfl rfl (zr (by omega)) mk_X4_check ly_25 ml_4_157 (Nat.le_of_ble_eq_true rfl) (fun s14 hs14 => ?_)
  obtain ⟨fs14, -⟩ := hs14
  have Fs14 : Fm [7, 8, 9, 10, 11, 12, 13, 14, 15, 25, 26, 27, 28] [] σ s14 := Fm.tr Fs12 (Fm.wd fs14 rfl rfl)
  refine wa_aload_n (i := 0) rfl rfl ?_
  refine wa_aload_n (i := 0) rfl rfl ?_
  refine wa_iload rfl ?_
  refine wa_iload_n (i := 2) rfl rfl ?_
  refine wa_iconst (v := 0) (by decide) ?_
  refine wa_Vi (d9 := d - 1) [.int _, .int _, .int _] [.ref 25] (sp_X4_lineOf G (d := d - 1) (by omega) s14 _ _ _ (by ((try simp only [vp_in_iff, Int32.lt_iff_toInt_lt, Int32.le_iff_toInt_le, ← Int32.toInt_inj, Int32.reduceToInt, n_1, n_2, n_8, Int32.toNatClampNeg, Int64.lt_iff_toInt_lt, Int64.le_iff_toInt_le, ← Int64.toInt_inj, Int64.reduceToInt, Int32.toInt_toInt64, lg_cmp_ge, lg_cmp_le, lg_cmp_gt, lg_cmp_lt, lg_cmp_eq, Bool.false_eq_true, Bool.true_eq_false, reduceCtorEq, false_iff, true_iff, iff_true, iff_false, and_true, true_and, and_false, false_and, reduceIte, ite_true, ite_false, eq_self] at *)) <;> omega)) (rfl) rfl rfl (zr (by omega)) mk_X4_lineOf ly_25 ml_4_140 (Nat.le_of_ble_eq_true rfl) (fun x17 s16 hs16 => ?_)
  obtain ⟨fs16, -⟩ := pI hs16
  have Fs16 : Fm [7, 8, 9, 10, 11, 12, 13, 14, 15, 25, 26, 27, 28] [] σ s16 := Fm.tr Fs14 (Fm.wd fs16 rfl rfl)
  refine wa_Vv (d9 := d - 1) [.int _] [] (sp_X4_add G (d := d - 1) (by omega) s16 _) (rfl) rfl rfl (zr (by omega)) mk_X4_add ly_25 ml_4_144 (Nat.le_of_ble_eq_true rfl) (fun s18 hs18 => ?_)
  obtain ⟨fs18, -⟩ := hs18
  have Fs18 : Fm [7, 8, 9, 10, 11, 12, 13, 14, 15, 25, 26, 27, 28] [] σ s18 := Fm.tr Fs16 (Fm.wd fs18 rfl rfl)
  refine wa_aload_n (i := 0) rfl rfl ?_
  refine wa_iload_n (i := 1) rfl rfl ?_
  refine wa_Vv (d9 := d - 1) [.int _] [] (sp_X4_copyLevel G (d := d - 1) (by omega) s18 _) (rfl) rfl rfl (zr (by omega)) mk_X4_copyLevel ly_25 ml_4_147 (Nat.le_of_ble_eq_true rfl) (fun s20 hs20 => ?_)
  obtain ⟨fs20, -⟩ := hs20
  have Fs20 : Fm [7, 8, 9, 10, 11, 12, 13, 14, 15, 25, 26, 27, 28] [] σ s20 := Fm.tr Fs18 (Fm.wd fs20 rfl rfl)
  refine wa_aload_n (i := 0) rfl rfl ?_
  refine wa_iload_n (i := 1) rfl rfl ?_
  refine wa_iconst (v := 1) (by decide) ?_
  refine wa_iadd ?_
  refine wa_top (fun v22 hv22 => ?_)
  have tv22 := i_addT hv22
  clear hv22
  refine wa_iload rfl ?_
  refine wa_Vv (d9 := d - 1) [.int _, .int _] [] (sp_X4_setTop G (d := d - 1) (by omega) s20 _ _) (rfl) rfl rfl (zr (by omega)) mk_X4_setTop ly_25 ml_4_160 (Nat.le_of_ble_eq_true rfl) (fun s23 hs23 => ?_)
  obtain ⟨fs23, -⟩ := hs23
  have Fs23 : Fm [7, 8, 9, 10, 11, 12, 13, 14, 15, 25, 26, 27, 28] [] σ s23 := Fm.tr Fs20 (Fm.wd fs23 rfl rfl)
  refine wa_iload_n (i := 3) rfl rfl ?_
  refine wa_iconst (v := 1) (by decide) ?_
  refine wa_icmp_ne o_X4_splitOrder_103 (by decide) (fun h25 => ?_) (fun h25 => ?_)
  · refine wa_return (st := []) rfl rfl ?_
    exact ⟨Fs23, trivial⟩
  · refine wa_aload_n (i := 0) rfl rfl ?_
    refine wa_bipush (v := (-25)) (by decide) ?_
    refine wa_Vv (d9 := d - 1) [.int _] [] (sp_X4_emit G (d := d - 1) (by omega) s23 _) (rfl) rfl rfl (zr (by omega)) mk_X4_emit ly_25 ml_4_76 (Nat.le_of_ble_eq_true rfl) (fun s26 hs26 => ?_)
    obtain ⟨fs26, -⟩ := hs26
    have Fs26 : Fm [7, 8, 9, 10, 11, 12, 13, 14, 15, 25, 26, 27, 28] [] σ s26 := Fm.tr Fs23 (Fm.wd fs26 rfl rfl)
    refine wa_aload_n (i := 0) rfl rfl ?_
    refine wa_iload_n (i := 1) rfl rfl ?_
    refine wa_iload rfl ?_
    refine wa_Si (d9 := d - 1) [.int _, .int _] [.ref 25] (sp_X4_form G (d := d - 1) (by omega) s26 _ _) (rfl) rfl rfl (zr (by omega)) mk_X4_form ml_4_95 (Nat.le_of_ble_eq_true rfl) (fun x29 s28 hs28 => ?_)
    obtain ⟨zs28, cx29_1, -⟩ := pI hs28
    subst zs28
    refine wa_iload_n (i := 1) rfl rfl ?_
    refine wa_iconst (v := 1) (by decide) ?_
    refine wa_iadd ?_
    refine wa_top (fun v30 hv30 => ?_)
    have tv30 := i_addT hv30
    clear hv30
    refine wa_iload rfl ?_
    refine wa_iconst (v := 1) (by decide) ?_
    refine wa_isub ?_
    refine wa_top (fun v31 hv31 => ?_)
    have tv31 := i_subT hv31
    clear hv31
    refine wa_Si (d9 := d - 1) [.int _, .int _] [.int x29, .ref 25] (sp_X4_form G (d := d - 1) (by omega) s26 _ _) (rfl) rfl rfl (zr (by omega)) mk_X4_form ml_4_95 (Nat.le_of_ble_eq_true rfl) (fun x33 s32 hs32 => ?_)
    obtain ⟨zs32, cx33_1, -⟩ := pI hs32
    subst zs32
    refine wa_Vv (d9 := d - 1) [.int _, .int _] [] (sp_X4_copyForm G (d := d - 1) (by omega) s26 _ _ (by ((try simp only [vp_in_iff, Int32.lt_iff_toInt_lt, Int32.le_iff_toInt_le, ← Int32.toInt_inj, Int32.reduceToInt, n_1, n_2, n_8, Int32.toNatClampNeg, Int64.lt_iff_toInt_lt, Int64.le_iff_toInt_le, ← Int64.toInt_inj, Int64.reduceToInt, Int32.toInt_toInt64, lg_cmp_ge, lg_cmp_le, lg_cmp_gt, lg_cmp_lt, lg_cmp_eq, Bool.false_eq_true, Bool.true_eq_false, reduceCtorEq, false_iff, true_iff, iff_true, iff_false, and_true, true_and, and_false, false_and, reduceIte, ite_true, ite_false, eq_self] at *)) <;> omega) (by ((try simp only [vp_in_iff, Int32.lt_iff_toInt_lt, Int32.le_iff_toInt_le, ← Int32.toInt_inj, Int32.reduceToInt, n_1, n_2, n_8, Int32.toNatClampNeg, Int64.lt_iff_toInt_lt, Int64.le_iff_toInt_le, ← Int64.toInt_inj, Int64.reduceToInt, Int32.toInt_toInt64, lg_cmp_ge, lg_cmp_le, lg_cmp_gt, lg_cmp_lt, lg_cmp_eq, Bool.false_eq_true, Bool.true_eq_false, reduceCtorEq, false_iff, true_iff, iff_true, iff_false, and_true, true_and, and_false, false_and, reduceIte, ite_true, ite_false, eq_self] at *)) <;> omega)) (rfl) rfl rfl (zr (by omega)) mk_X4_copyForm ly_25 ml_4_163 (Nat.le_of_ble_eq_true rfl) (fun s34 hs34 => ?_)
    obtain ⟨fs34, -⟩ := hs34
    have Fs34 : Fm [7, 8, 9, 10, 11, 12, 13, 14, 15, 25, 26, 27, 28] [] σ s34 := Fm.tr Fs26 (Fm.wd fs34 rfl rfl)
    refine wa_return (st := []) rfl rfl ?_
    exact ⟨Fs34, trivial⟩
set_option maxRecDepth 100000 in
set_option maxHeartbeats 4000000 in
theorem sp_J9_floorMod_f86c9 (G : kG9) {d : Nat} (hd : 0 ≤ d) (σ : St) (a0 : Int64) (a1 : Int64) (p1 : ¬ a1 = 0) : Ct G M_J9_floorMod_f86c9 d [.long a0, .long a1] σ (fun r σ' => ∃ x : Int64, r = some (.long x) ∧ σ = σ' ∧ True) := by
  refine wa_startF (by decide +kernel) rfl (Nat.le_of_ble_eq_true rfl) (lv := [(0, .long a0), (2, .long a1)]) rfl o_J9_floorMod_f86c9_0 rfl ?_
  refine wa_lload_n (i := 0) rfl rfl ?_
  refine wa_lload_n (i := 2) rfl rfl ?_
  refine wa_lrem (by ((try simp only [vp_in_iff, Int32.lt_iff_toInt_lt, Int32.le_iff_toInt_le, ← Int32.toInt_inj, Int32.reduceToInt, n_1, n_2, n_8, Int32.toNatClampNeg, Int64.lt_iff_toInt_lt, Int64.le_iff_toInt_le, ← Int64.toInt_inj, Int64.reduceToInt, Int32.toInt_toInt64, lg_cmp_ge, lg_cmp_le, lg_cmp_gt, lg_cmp_lt, lg_cmp_eq, Bool.false_eq_true, Bool.true_eq_false, reduceCtorEq, false_iff, true_iff, iff_true, iff_false, and_true, true_and, and_false, false_and, reduceIte, ite_true, ite_false, eq_self] at *)) <;> omega) ?_
  refine wa_topl (fun v1 hv1 => ?_)
  clear hv1
  refine wa_lstoreD (lv' := [(4, .long v1), (0, .long a0), (2, .long a1)]) (by decide) rfl ?_
  refine wa_lload_n (i := 0) rfl rfl ?_
  refine wa_lload_n (i := 2) rfl rfl ?_
  refine wa_lxor ?_
  refine wa_topl (fun v2 hv2 => ?_)
  clear hv2
  refine wa_lconst (v := 0) (by decide) ?_
  refine wa_lcmp ?_
  refine wa_top (fun v3 hv3 => ?_)
  have tv3 := i_cmpT hv3
  clear hv3
  refine wa_if_ge o_J9_floorMod_f86c9_25 (by decide) (fun h4 => ?_) (fun h4 => ?_)
  · refine wa_lload rfl ?_
    refine wa_lreturn rfl rfl ?_
    exact ⟨_, rfl, rfl, trivial⟩
  · refine wa_lload rfl ?_
    refine wa_lconst (v := 0) (by decide) ?_
    refine wa_lcmp ?_
    refine wa_top (fun v5 hv5 => ?_)
    have tv5 := i_cmpT hv5
    clear hv5
    refine wa_if_eq o_J9_floorMod_f86c9_25 (by decide) (fun h6 => ?_) (fun h6 => ?_)
    · refine wa_lload rfl ?_
      refine wa_lreturn rfl rfl ?_
      exact ⟨_, rfl, rfl, trivial⟩
    · refine wa_lload rfl ?_
      refine wa_lload_n (i := 2) rfl rfl ?_
      refine wa_ladd ?_
      refine wa_topl (fun v7 hv7 => ?_)
      clear hv7
      refine wa_lreturn rfl rfl ?_
      exact ⟨_, rfl, rfl, trivial⟩
set_option maxHeartbeats 4000000 in
theorem sp_X4_divisorOf (G : kG9) {d : Nat} (hd : 1 ≤ d) (σ : St) (a0 : Int32) (a1 : Int32) (p1 : 0 ≤ a0.toInt ∧ a0.toInt ≤ 1914) : Ct G M_X4_divisorOf d [.ref 25, .int a0, .int a1] σ (fun r σ' => ∃ x : Int32, r = some (.int x) ∧ Fm [25, 28] [] σ σ' ∧ True) := by
  refine wa_start (by decide) rfl (Nat.le_of_ble_eq_true rfl) (lv := [(0, .ref 25), (1, .int a0), (2, .int a1)]) rfl o_X4_divisorOf_0 rfl ?_
  have ua0 := Int32.toInt_lt a0
  have wa0 := Int32.le_toInt a0
  have ua1 := Int32.toInt_lt a1
  have wa1 := Int32.le_toInt a1
  refine wa_lconst (v := 1) (by decide) ?_
  refine wa_iload_n (i := 2) rfl rfl ?_
  refine wa_i2l ?_
  refine wa_aload_n (i := 0) rfl rfl ?_
  refine wa_getr ck_4 fl_4_11 ly_25 rf_25_1 ?_
  refine wa_iload_n (i := 1) rfl rfl ?_
  refine wa_iconst (v := 5) (by decide) ?_
  refine wa_iadd ?_
  refine wa_top (fun v1 hv1 => ?_)
  have tv1 := i_addT hv1
  clear hv1
  refine wa_lald ly_26 (by ((try simp only [vp_in_iff, Int32.lt_iff_toInt_lt, Int32.le_iff_toInt_le, ← Int32.toInt_inj, Int32.reduceToInt, n_1, n_2, n_8, Int32.toNatClampNeg, Int64.lt_iff_toInt_lt, Int64.le_iff_toInt_le, ← Int64.toInt_inj, Int64.reduceToInt, Int32.toInt_toInt64, lg_cmp_ge, lg_cmp_le, lg_cmp_gt, lg_cmp_lt, lg_cmp_eq, Bool.false_eq_true, Bool.true_eq_false, reduceCtorEq, false_iff, true_iff, iff_true, iff_false, and_true, true_and, and_false, false_and, reduceIte, ite_true, ite_false, eq_self] at *)) <;> omega) ?_
  refine wa_lmul ?_
  refine wa_topl (fun v2 hv2 => ?_)
  clear hv2
  refine wa_maxL zs (allW_in (kT_5 _ (List.mem_of_getElem? (i := 94) rfl)) rfl) (Nat.le_of_ble_eq_true rfl) ?_
  refine wa_topl (fun v3 hv3 => ?_)
  have tv3 := i_maxL hv3
  clear hv3
  refine wa_lstore_nD (lv' := [(3, .long v3), (0, .ref 25), (1, .int a0), (2, .int a1)]) (i := 3) rfl (by decide) rfl ?_
  refine wa_aload_n (i := 0) rfl rfl ?_
  refine wa_dup rfl ?_
  refine wa_getz ck_4 fl_4_61 ly_25 ?_
  refine wa_lload_n (i := 3) rfl rfl ?_
  refine wa_ldc2 (v := (12)) (allW_in (kT_5 _ (List.mem_of_getElem? (i := 113) rfl)) rfl) ?_
  refine wa_lcmp ?_
  refine wa_top (fun v4 hv4 => ?_)
  have tv4 := i_cmpT hv4
  clear hv4
  refine wa_if_le o_X4_divisorOf_33 (by decide) (fun h5 => ?_) (fun h5 => ?_)
  · refine wa_iconst (v := 0) (by decide) ?_
    refine wa_ior ?_
    refine wa_rw (bI_or (a := (gb σ 25 7)) (b := false) rfl rfl) ?_
    refine wa_putz ((gb σ 25 7) || false) (rfl) ck_4 fl_4_61 ly_25 (fun s6 hs6 => ?_)
    have Fs6 : Fm [25, 28] [] σ s6 := by rw [hs6]; exact Fm.sb (Fm.rf [25, 28] [] σ) rfl
    refine wa_iconst (v := 1) (by decide) ?_
    refine wa_istoreD (lv' := [(5, .int (bI true)), (3, .long v3), (0, .ref 25), (1, .int a0), (2, .int a1)]) (by decide) rfl ?_
    refine wa_iconst (v := 0) (by decide) ?_
    refine wa_istoreD (lv' := [(6, .int 0), (5, .int (bI true)), (3, .long v3), (0, .ref 25), (1, .int a0), (2, .int a1)]) (by decide) rfl ?_
    refine wa_pick [3, 4, 2, 1, 0] rfl ?_
    have hi9 : ∀ (n9_44 : Nat) (l5 : Bool) (l6 : Int32) (s7 : St), ((Fm [25, 28] [] σ s7) ∧ (gb s7 25 7 = ((gb σ 25 7) || false)) ∧ (0 ≤ l6.toInt) ∧ (True)) → (2147483647 - l6.toInt).toNat = n9_44 → WA G M_X4_divisorOf (ZM G M_X4_divisorOf d (fun r σ' => ∃ x : Int32, r = some (.int x) ∧ Fm [25, 28] [] σ σ' ∧ True)) B_X4_divisorOf_44 [(0, .ref 25), (1, .int a0), (3, .long v3), (5, .int (bI l5)), (6, .int l6)] [] s7 := by
      intro n9_44
      induction n9_44 using Nat.strongRecOn with
      | _ n9_44 ih8 =>
        intro l5 l6 s7 i9 m9_44
        obtain ⟨Fs7, khi9_0, jhi9_0, -⟩ := i9
        have ul6 := Int32.toInt_lt l6
        have wl6 := Int32.le_toInt l6
        refine wa_iload rfl ?_
        refine wa_iconst (v := 4) (by decide) ?_
        refine wa_icmp_gt o_X4_divisorOf_103 (by decide) (fun h10 => ?_) (fun h10 => ?_)
        · refine wa_aload_n (i := 0) rfl rfl ?_
          refine wa_getr ck_4 fl_4_19 ly_25 rf_25_3 ?_
          refine wa_iconst (v := 5) (by decide) ?_
          refine wa_lload_n (i := 3) rfl rfl ?_
          refine wa_l2i ?_
          refine wa_top (fun v11 hv11 => ?_)
          clear hv11
          refine wa_iast ly_28 (by ((try simp only [vp_in_iff, Int32.lt_iff_toInt_lt, Int32.le_iff_toInt_le, ← Int32.toInt_inj, Int32.reduceToInt, n_1, n_2, n_8, Int32.toNatClampNeg, Int64.lt_iff_toInt_lt, Int64.le_iff_toInt_le, ← Int64.toInt_inj, Int64.reduceToInt, Int32.toInt_toInt64, lg_cmp_ge, lg_cmp_le, lg_cmp_gt, lg_cmp_lt, lg_cmp_eq, Bool.false_eq_true, Bool.true_eq_false, reduceCtorEq, false_iff, true_iff, iff_true, iff_false, and_true, true_and, and_false, false_and, reduceIte, ite_true, ite_false, eq_self] at *)) <;> omega) (fun s12 hs12 => ?_)
          have Fs12 : Fm [25, 28] [] σ s12 := by rw [hs12]; exact Fm.si Fs7 rfl
          refine wa_iload rfl ?_
          refine wa_if_eq o_X4_divisorOf_135 (by decide) (fun h13 => ?_) (fun h13 => ?_)
          · replace h13 := bI_f (b := l5) (rfl) h13
            refine wa_iconst (v := (-1)) (by decide) ?_
            refine wa_ireturn rfl rfl ?_
            exact ⟨_, rfl, Fs12, trivial⟩
          · replace h13 := bI_t (b := l5) (rfl) h13
            refine wa_aload_n (i := 0) rfl rfl ?_
            refine wa_getr ck_4 fl_4_19 ly_25 rf_25_3 ?_
            refine wa_iconst (v := 4) (by decide) ?_
            refine wa_iald ly_28 (by ((try simp only [vp_in_iff, Int32.lt_iff_toInt_lt, Int32.le_iff_toInt_le, ← Int32.toInt_inj, Int32.reduceToInt, n_1, n_2, n_8, Int32.toNatClampNeg, Int64.lt_iff_toInt_lt, Int64.le_iff_toInt_le, ← Int64.toInt_inj, Int64.reduceToInt, Int32.toInt_toInt64, lg_cmp_ge, lg_cmp_le, lg_cmp_gt, lg_cmp_lt, lg_cmp_eq, Bool.false_eq_true, Bool.true_eq_false, reduceCtorEq, false_iff, true_iff, iff_true, iff_false, and_true, true_and, and_false, false_and, reduceIte, ite_true, ite_false, eq_self] at *)) <;> omega) ?_
            refine wa_if_ne o_X4_divisorOf_130 (by decide) (fun h14 => ?_) (fun h14 => ?_)
            · refine wa_bipush (v := 27) (by decide) ?_
              refine wa_goto o_X4_divisorOf_136 (by decide) ?_
              refine wa_ireturn rfl rfl ?_
              exact ⟨_, rfl, Fs12, trivial⟩
            · refine wa_bipush (v := 26) (by decide) ?_
              refine wa_goto o_X4_divisorOf_136 (by decide) ?_
              refine wa_ireturn rfl rfl ?_
              exact ⟨_, rfl, Fs12, trivial⟩
        · refine wa_aload_n (i := 0) rfl rfl ?_
          refine wa_getr ck_4 fl_4_19 ly_25 rf_25_3 ?_
          refine wa_iload rfl ?_
          refine wa_aload_n (i := 0) rfl rfl ?_
          refine wa_getr ck_4 fl_4_11 ly_25 rf_25_1 ?_
          refine wa_iload_n (i := 1) rfl rfl ?_
          refine wa_iload rfl ?_
          refine wa_iadd ?_
          refine wa_top (fun v15 hv15 => ?_)
          have tv15 := i_addT hv15
          clear hv15
          refine wa_lald ly_26 (by ((try simp only [vp_in_iff, Int32.lt_iff_toInt_lt, Int32.le_iff_toInt_le, ← Int32.toInt_inj, Int32.reduceToInt, n_1, n_2, n_8, Int32.toNatClampNeg, Int64.lt_iff_toInt_lt, Int64.le_iff_toInt_le, ← Int64.toInt_inj, Int64.reduceToInt, Int32.toInt_toInt64, lg_cmp_ge, lg_cmp_le, lg_cmp_gt, lg_cmp_lt, lg_cmp_eq, Bool.false_eq_true, Bool.true_eq_false, reduceCtorEq, false_iff, true_iff, iff_true, iff_false, and_true, true_and, and_false, false_and, reduceIte, ite_true, ite_false, eq_self] at *)) <;> omega) ?_
          refine wa_lload_n (i := 3) rfl rfl ?_
          refine wa_Sl (d9 := d - 1) [.long _, .long _] [.int l6, .ref 28] (sp_J9_floorMod_f86c9 G (d := d - 1) (by omega) s7 _ _ (by ((try simp only [vp_in_iff, Int32.lt_iff_toInt_lt, Int32.le_iff_toInt_le, ← Int32.toInt_inj, Int32.reduceToInt, n_1, n_2, n_8, Int32.toNatClampNeg, Int64.lt_iff_toInt_lt, Int64.le_iff_toInt_le, ← Int64.toInt_inj, Int64.reduceToInt, Int32.toInt_toInt64, lg_cmp_ge, lg_cmp_le, lg_cmp_gt, lg_cmp_lt, lg_cmp_eq, Bool.false_eq_true, Bool.true_eq_false, reduceCtorEq, false_iff, true_iff, iff_true, iff_false, and_true, true_and, and_false, false_and, reduceIte, ite_true, ite_false, eq_self] at *)) <;> omega)) (rfl) rfl rfl (zr (by omega)) mk_J9_floorMod_f86c9 ml_4_187 (Nat.le_of_ble_eq_true rfl) (fun x17 s16 hs16 => ?_)
          obtain ⟨zs16, -⟩ := pL hs16
          subst zs16
          refine wa_l2i ?_
          refine wa_top (fun v18 hv18 => ?_)
          clear hv18
          refine wa_iast ly_28 (by ((try simp only [vp_in_iff, Int32.lt_iff_toInt_lt, Int32.le_iff_toInt_le, ← Int32.toInt_inj, Int32.reduceToInt, n_1, n_2, n_8, Int32.toNatClampNeg, Int64.lt_iff_toInt_lt, Int64.le_iff_toInt_le, ← Int64.toInt_inj, Int64.reduceToInt, Int32.toInt_toInt64, lg_cmp_ge, lg_cmp_le, lg_cmp_gt, lg_cmp_lt, lg_cmp_eq, Bool.false_eq_true, Bool.true_eq_false, reduceCtorEq, false_iff, true_iff, iff_true, iff_false, and_true, true_and, and_false, false_and, reduceIte, ite_true, ite_false, eq_self] at *)) <;> omega) (fun s19 hs19 => ?_)
          have Fs19 : Fm [25, 28] [] σ s19 := by rw [hs19]; exact Fm.si Fs7 rfl
          refine wa_iload rfl ?_
          refine wa_iload rfl ?_
          refine wa_iconst (v := 4) (by decide) ?_
          refine wa_icmp_eq o_X4_divisorOf_89 (by decide) (fun h20 => ?_) (fun h20 => ?_)
          · refine wa_iconst (v := 1) (by decide) ?_
            refine wa_goto o_X4_divisorOf_94 (by decide) ?_
            refine wa_iand ?_
            refine wa_rw (bI_and (a := l5) (b := true) rfl rfl) ?_
            refine wa_istoreD (lv' := [(5, .int (bI (l5 && true))), (0, .ref 25), (1, .int a0), (3, .long v3), (6, .int l6)]) (by decide) rfl ?_
            refine wa_iinc (v := (1)) (lv' := fun y21 => [(6, .int y21), (5, .int (bI (l5 && true))), (0, .ref 25), (1, .int a0), (3, .long v3)]) (by decide) rfl (by decide) (fun _ => rfl) (fun y21 hy21 => ?_)
            have ty21 := i_addT hy21.symm
            clear hy21
            refine wa_goto o_X4_divisorOf_44 (by decide) ?_
            refine wa_pick [2, 3, 4, 1, 0] rfl ?_
            exact ih8 _ (by ((try simp only [vp_in_iff, Int32.lt_iff_toInt_lt, Int32.le_iff_toInt_le, ← Int32.toInt_inj, Int32.reduceToInt, n_1, n_2, n_8, Int32.toNatClampNeg, Int64.lt_iff_toInt_lt, Int64.le_iff_toInt_le, ← Int64.toInt_inj, Int64.reduceToInt, Int32.toInt_toInt64, lg_cmp_ge, lg_cmp_le, lg_cmp_gt, lg_cmp_lt, lg_cmp_eq, Bool.false_eq_true, Bool.true_eq_false, reduceCtorEq, false_iff, true_iff, iff_true, iff_false, and_true, true_and, and_false, false_and, reduceIte, ite_true, ite_false, eq_self] at *)) <;> omega) _ _ _ ⟨Fs19, ((nx_gb_si hs19).trans (khi9_0)), (by ((try simp only [vp_in_iff, Int32.lt_iff_toInt_lt, Int32.le_iff_toInt_le, ← Int32.toInt_inj, Int32.reduceToInt, n_1, n_2, n_8, Int32.toNatClampNeg, Int64.lt_iff_toInt_lt, Int64.le_iff_toInt_le, ← Int64.toInt_inj, Int64.reduceToInt, Int32.toInt_toInt64, lg_cmp_ge, lg_cmp_le, lg_cmp_gt, lg_cmp_lt, lg_cmp_eq, Bool.false_eq_true, Bool.true_eq_false, reduceCtorEq, false_iff, true_iff, iff_true, iff_false, and_true, true_and, and_false, false_and, reduceIte, ite_true, ite_false, eq_self] at *)) <;> omega), trivial⟩ rfl
          · refine wa_aload_n (i := 0) rfl rfl ?_
            refine wa_getr ck_4 fl_4_19 ly_25 rf_25_3 ?_
            refine wa_iload rfl ?_
            refine wa_iald ly_28 (by ((try simp only [vp_in_iff, Int32.lt_iff_toInt_lt, Int32.le_iff_toInt_le, ← Int32.toInt_inj, Int32.reduceToInt, n_1, n_2, n_8, Int32.toNatClampNeg, Int64.lt_iff_toInt_lt, Int64.le_iff_toInt_le, ← Int64.toInt_inj, Int64.reduceToInt, Int32.toInt_toInt64, lg_cmp_ge, lg_cmp_le, lg_cmp_gt, lg_cmp_lt, lg_cmp_eq, Bool.false_eq_true, Bool.true_eq_false, reduceCtorEq, false_iff, true_iff, iff_true, iff_false, and_true, true_and, and_false, false_and, reduceIte, ite_true, ite_false, eq_self] at *)) <;> omega) ?_
            refine wa_if_ne o_X4_divisorOf_93 (by decide) (fun h22 => ?_) (fun h22 => ?_)
            · refine wa_iconst (v := 0) (by decide) ?_
              refine wa_iand ?_
              refine wa_rw (bI_and (a := l5) (b := false) rfl rfl) ?_
              refine wa_istoreD (lv' := [(5, .int (bI (l5 && false))), (0, .ref 25), (1, .int a0), (3, .long v3), (6, .int l6)]) (by decide) rfl ?_
              refine wa_iinc (v := (1)) (lv' := fun y23 => [(6, .int y23), (5, .int (bI (l5 && false))), (0, .ref 25), (1, .int a0), (3, .long v3)]) (by decide) rfl (by decide) (fun _ => rfl) (fun y23 hy23 => ?_)
              have ty23 := i_addT hy23.symm
              clear hy23
              refine wa_goto o_X4_divisorOf_44 (by decide) ?_
              refine wa_pick [2, 3, 4, 1, 0] rfl ?_
              exact ih8 _ (by ((try simp only [vp_in_iff, Int32.lt_iff_toInt_lt, Int32.le_iff_toInt_le, ← Int32.toInt_inj, Int32.reduceToInt, n_1, n_2, n_8, Int32.toNatClampNeg, Int64.lt_iff_toInt_lt, Int64.le_iff_toInt_le, ← Int64.toInt_inj, Int64.reduceToInt, Int32.toInt_toInt64, lg_cmp_ge, lg_cmp_le, lg_cmp_gt, lg_cmp_lt, lg_cmp_eq, Bool.false_eq_true, Bool.true_eq_false, reduceCtorEq, false_iff, true_iff, iff_true, iff_false, and_true, true_and, and_false, false_and, reduceIte, ite_true, ite_false, eq_self] at *)) <;> omega) _ _ _ ⟨Fs19, ((nx_gb_si hs19).trans (khi9_0)), (by ((try simp only [vp_in_iff, Int32.lt_iff_toInt_lt, Int32.le_iff_toInt_le, ← Int32.toInt_inj, Int32.reduceToInt, n_1, n_2, n_8, Int32.toNatClampNeg, Int64.lt_iff_toInt_lt, Int64.le_iff_toInt_le, ← Int64.toInt_inj, Int64.reduceToInt, Int32.toInt_toInt64, lg_cmp_ge, lg_cmp_le, lg_cmp_gt, lg_cmp_lt, lg_cmp_eq, Bool.false_eq_true, Bool.true_eq_false, reduceCtorEq, false_iff, true_iff, iff_true, iff_false, and_true, true_and, and_false, false_and, reduceIte, ite_true, ite_false, eq_self] at *)) <;> omega), trivial⟩ rfl
            · refine wa_iconst (v := 1) (by decide) ?_
              refine wa_goto o_X4_divisorOf_94 (by decide) ?_
              refine wa_iand ?_
              refine wa_rw (bI_and (a := l5) (b := true) rfl rfl) ?_
              refine wa_istoreD (lv' := [(5, .int (bI (l5 && true))), (0, .ref 25), (1, .int a0), (3, .long v3), (6, .int l6)]) (by decide) rfl ?_
              refine wa_iinc (v := (1)) (lv' := fun y24 => [(6, .int y24), (5, .int (bI (l5 && true))), (0, .ref 25), (1, .int a0), (3, .long v3)]) (by decide) rfl (by decide) (fun _ => rfl) (fun y24 hy24 => ?_)
              have ty24 := i_addT hy24.symm
              clear hy24
              refine wa_goto o_X4_divisorOf_44 (by decide) ?_
              refine wa_pick [2, 3, 4, 1, 0] rfl ?_
              exact ih8 _ (by ((try simp only [vp_in_iff, Int32.lt_iff_toInt_lt, Int32.le_iff_toInt_le, ← Int32.toInt_inj, Int32.reduceToInt, n_1, n_2, n_8, Int32.toNatClampNeg, Int64.lt_iff_toInt_lt, Int64.le_iff_toInt_le, ← Int64.toInt_inj, Int64.reduceToInt, Int32.toInt_toInt64, lg_cmp_ge, lg_cmp_le, lg_cmp_gt, lg_cmp_lt, lg_cmp_eq, Bool.false_eq_true, Bool.true_eq_false, reduceCtorEq, false_iff, true_iff, iff_true, iff_false, and_true, true_and, and_false, false_and, reduceIte, ite_true, ite_false, eq_self] at *)) <;> omega) _ _ _ ⟨Fs19, ((nx_gb_si hs19).trans (khi9_0)), (by ((try simp only [vp_in_iff, Int32.lt_iff_toInt_lt, Int32.le_iff_toInt_le, ← Int32.toInt_inj, Int32.reduceToInt, n_1, n_2, n_8, Int32.toNatClampNeg, Int64.lt_iff_toInt_lt, Int64.le_iff_toInt_le, ← Int64.toInt_inj, Int64.reduceToInt, Int32.toInt_toInt64, lg_cmp_ge, lg_cmp_le, lg_cmp_gt, lg_cmp_lt, lg_cmp_eq, Bool.false_eq_true, Bool.true_eq_false, reduceCtorEq, false_iff, true_iff, iff_true, iff_false, and_true, true_and, and_false, false_and, reduceIte, ite_true, ite_false, eq_self] at *)) <;> omega), trivial⟩ rfl
    exact hi9 _ _ _ _ ⟨Fs6, (nxe_gb_sb hs6), (by ((try simp only [vp_in_iff, Int32.lt_iff_toInt_lt, Int32.le_iff_toInt_le, ← Int32.toInt_inj, Int32.reduceToInt, n_1, n_2, n_8, Int32.toNatClampNeg, Int64.lt_iff_toInt_lt, Int64.le_iff_toInt_le, ← Int64.toInt_inj, Int64.reduceToInt, Int32.toInt_toInt64, lg_cmp_ge, lg_cmp_le, lg_cmp_gt, lg_cmp_lt, lg_cmp_eq, Bool.false_eq_true, Bool.true_eq_false, reduceCtorEq, false_iff, true_iff, iff_true, iff_false, and_true, true_and, and_false, false_and, reduceIte, ite_true, ite_false, eq_self] at *)) <;> omega), trivial⟩ rfl
  · refine wa_iconst (v := 1) (by decide) ?_
    refine wa_goto o_X4_divisorOf_34 (by decide) ?_
    refine wa_ior ?_
    refine wa_rw (bI_or (a := (gb σ 25 7)) (b := true) rfl rfl) ?_
    refine wa_putz ((gb σ 25 7) || true) (rfl) ck_4 fl_4_61 ly_25 (fun s25 hs25 => ?_)
    have Fs25 : Fm [25, 28] [] σ s25 := by rw [hs25]; exact Fm.sb (Fm.rf [25, 28] [] σ) rfl
    refine wa_iconst (v := 1) (by decide) ?_
    refine wa_istoreD (lv' := [(5, .int (bI true)), (3, .long v3), (0, .ref 25), (1, .int a0), (2, .int a1)]) (by decide) rfl ?_
    refine wa_iconst (v := 0) (by decide) ?_
    refine wa_istoreD (lv' := [(6, .int 0), (5, .int (bI true)), (3, .long v3), (0, .ref 25), (1, .int a0), (2, .int a1)]) (by decide) rfl ?_
    refine wa_pick [3, 4, 2, 1, 0] rfl ?_
    have hi28 : ∀ (n9_44 : Nat) (l5 : Bool) (l6 : Int32) (s26 : St), ((Fm [25, 28] [] σ s26) ∧ (gb s26 25 7 = ((gb σ 25 7) || true)) ∧ (0 ≤ l6.toInt) ∧ (True)) → (2147483647 - l6.toInt).toNat = n9_44 → WA G M_X4_divisorOf (ZM G M_X4_divisorOf d (fun r σ' => ∃ x : Int32, r = some (.int x) ∧ Fm [25, 28] [] σ σ' ∧ True)) B_X4_divisorOf_44 [(0, .ref 25), (1, .int a0), (3, .long v3), (5, .int (bI l5)), (6, .int l6)] [] s26 := by
      intro n9_44
      induction n9_44 using Nat.strongRecOn with
      | _ n9_44 ih27 =>
        intro l5 l6 s26 i9 m9_44
        obtain ⟨Fs26, khi28_0, jhi28_0, -⟩ := i9
        have ul6 := Int32.toInt_lt l6
        have wl6 := Int32.le_toInt l6
        refine wa_iload rfl ?_
        refine wa_iconst (v := 4) (by decide) ?_
        refine wa_icmp_gt o_X4_divisorOf_103 (by decide) (fun h29 => ?_) (fun h29 => ?_)
        · refine wa_aload_n (i := 0) rfl rfl ?_
          refine wa_getr ck_4 fl_4_19 ly_25 rf_25_3 ?_
          refine wa_iconst (v := 5) (by decide) ?_
          refine wa_lload_n (i := 3) rfl rfl ?_
          refine wa_l2i ?_
          refine wa_top (fun v30 hv30 => ?_)
          clear hv30
          refine wa_iast ly_28 (by ((try simp only [vp_in_iff, Int32.lt_iff_toInt_lt, Int32.le_iff_toInt_le, ← Int32.toInt_inj, Int32.reduceToInt, n_1, n_2, n_8, Int32.toNatClampNeg, Int64.lt_iff_toInt_lt, Int64.le_iff_toInt_le, ← Int64.toInt_inj, Int64.reduceToInt, Int32.toInt_toInt64, lg_cmp_ge, lg_cmp_le, lg_cmp_gt, lg_cmp_lt, lg_cmp_eq, Bool.false_eq_true, Bool.true_eq_false, reduceCtorEq, false_iff, true_iff, iff_true, iff_false, and_true, true_and, and_false, false_and, reduceIte, ite_true, ite_false, eq_self] at *)) <;> omega) (fun s31 hs31 => ?_)
          have Fs31 : Fm [25, 28] [] σ s31 := by rw [hs31]; exact Fm.si Fs26 rfl
          refine wa_iload rfl ?_
          refine wa_if_eq o_X4_divisorOf_135 (by decide) (fun h32 => ?_) (fun h32 => ?_)
          · replace h32 := bI_f (b := l5) (rfl) h32
            refine wa_iconst (v := (-1)) (by decide) ?_
            refine wa_ireturn rfl rfl ?_
            exact ⟨_, rfl, Fs31, trivial⟩
          · replace h32 := bI_t (b := l5) (rfl) h32
            refine wa_aload_n (i := 0) rfl rfl ?_
            refine wa_getr ck_4 fl_4_19 ly_25 rf_25_3 ?_
            refine wa_iconst (v := 4) (by decide) ?_
            refine wa_iald ly_28 (by ((try simp only [vp_in_iff, Int32.lt_iff_toInt_lt, Int32.le_iff_toInt_le, ← Int32.toInt_inj, Int32.reduceToInt, n_1, n_2, n_8, Int32.toNatClampNeg, Int64.lt_iff_toInt_lt, Int64.le_iff_toInt_le, ← Int64.toInt_inj, Int64.reduceToInt, Int32.toInt_toInt64, lg_cmp_ge, lg_cmp_le, lg_cmp_gt, lg_cmp_lt, lg_cmp_eq, Bool.false_eq_true, Bool.true_eq_false, reduceCtorEq, false_iff, true_iff, iff_true, iff_false, and_true, true_and, and_false, false_and, reduceIte, ite_true, ite_false, eq_self] at *)) <;> omega) ?_
            refine wa_if_ne o_X4_divisorOf_130 (by decide) (fun h33 => ?_) (fun h33 => ?_)
            · refine wa_bipush (v := 27) (by decide) ?_
              refine wa_goto o_X4_divisorOf_136 (by decide) ?_
              refine wa_ireturn rfl rfl ?_
              exact ⟨_, rfl, Fs31, trivial⟩
            · refine wa_bipush (v := 26) (by decide) ?_
              refine wa_goto o_X4_divisorOf_136 (by decide) ?_
              refine wa_ireturn rfl rfl ?_
              exact ⟨_, rfl, Fs31, trivial⟩
        · refine wa_aload_n (i := 0) rfl rfl ?_
          refine wa_getr ck_4 fl_4_19 ly_25 rf_25_3 ?_
          refine wa_iload rfl ?_
          refine wa_aload_n (i := 0) rfl rfl ?_
          refine wa_getr ck_4 fl_4_11 ly_25 rf_25_1 ?_
          refine wa_iload_n (i := 1) rfl rfl ?_
          refine wa_iload rfl ?_
          refine wa_iadd ?_
          refine wa_top (fun v34 hv34 => ?_)
          have tv34 := i_addT hv34
          clear hv34
          refine wa_lald ly_26 (by ((try simp only [vp_in_iff, Int32.lt_iff_toInt_lt, Int32.le_iff_toInt_le, ← Int32.toInt_inj, Int32.reduceToInt, n_1, n_2, n_8, Int32.toNatClampNeg, Int64.lt_iff_toInt_lt, Int64.le_iff_toInt_le, ← Int64.toInt_inj, Int64.reduceToInt, Int32.toInt_toInt64, lg_cmp_ge, lg_cmp_le, lg_cmp_gt, lg_cmp_lt, lg_cmp_eq, Bool.false_eq_true, Bool.true_eq_false, reduceCtorEq, false_iff, true_iff, iff_true, iff_false, and_true, true_and, and_false, false_and, reduceIte, ite_true, ite_false, eq_self] at *)) <;> omega) ?_
          refine wa_lload_n (i := 3) rfl rfl ?_
          refine wa_Sl (d9 := d - 1) [.long _, .long _] [.int l6, .ref 28] (sp_J9_floorMod_f86c9 G (d := d - 1) (by omega) s26 _ _ (by ((try simp only [vp_in_iff, Int32.lt_iff_toInt_lt, Int32.le_iff_toInt_le, ← Int32.toInt_inj, Int32.reduceToInt, n_1, n_2, n_8, Int32.toNatClampNeg, Int64.lt_iff_toInt_lt, Int64.le_iff_toInt_le, ← Int64.toInt_inj, Int64.reduceToInt, Int32.toInt_toInt64, lg_cmp_ge, lg_cmp_le, lg_cmp_gt, lg_cmp_lt, lg_cmp_eq, Bool.false_eq_true, Bool.true_eq_false, reduceCtorEq, false_iff, true_iff, iff_true, iff_false, and_true, true_and, and_false, false_and, reduceIte, ite_true, ite_false, eq_self] at *)) <;> omega)) (rfl) rfl rfl (zr (by omega)) mk_J9_floorMod_f86c9 ml_4_187 (Nat.le_of_ble_eq_true rfl) (fun x36 s35 hs35 => ?_)
          obtain ⟨zs35, -⟩ := pL hs35
          subst zs35
          refine wa_l2i ?_
          refine wa_top (fun v37 hv37 => ?_)
          clear hv37
          refine wa_iast ly_28 (by ((try simp only [vp_in_iff, Int32.lt_iff_toInt_lt, Int32.le_iff_toInt_le, ← Int32.toInt_inj, Int32.reduceToInt, n_1, n_2, n_8, Int32.toNatClampNeg, Int64.lt_iff_toInt_lt, Int64.le_iff_toInt_le, ← Int64.toInt_inj, Int64.reduceToInt, Int32.toInt_toInt64, lg_cmp_ge, lg_cmp_le, lg_cmp_gt, lg_cmp_lt, lg_cmp_eq, Bool.false_eq_true, Bool.true_eq_false, reduceCtorEq, false_iff, true_iff, iff_true, iff_false, and_true, true_and, and_false, false_and, reduceIte, ite_true, ite_false, eq_self] at *)) <;> omega) (fun s38 hs38 => ?_)
          have Fs38 : Fm [25, 28] [] σ s38 := by rw [hs38]; exact Fm.si Fs26 rfl
          refine wa_iload rfl ?_
          refine wa_iload rfl ?_
          refine wa_iconst (v := 4) (by decide) ?_
          refine wa_icmp_eq o_X4_divisorOf_89 (by decide) (fun h39 => ?_) (fun h39 => ?_)
          · refine wa_iconst (v := 1) (by decide) ?_
            refine wa_goto o_X4_divisorOf_94 (by decide) ?_
            refine wa_iand ?_
            refine wa_rw (bI_and (a := l5) (b := true) rfl rfl) ?_
            refine wa_istoreD (lv' := [(5, .int (bI (l5 && true))), (0, .ref 25), (1, .int a0), (3, .long v3), (6, .int l6)]) (by decide) rfl ?_
            refine wa_iinc (v := (1)) (lv' := fun y40 => [(6, .int y40), (5, .int (bI (l5 && true))), (0, .ref 25), (1, .int a0), (3, .long v3)]) (by decide) rfl (by decide) (fun _ => rfl) (fun y40 hy40 => ?_)
            have ty40 := i_addT hy40.symm
            clear hy40
            refine wa_goto o_X4_divisorOf_44 (by decide) ?_
            refine wa_pick [2, 3, 4, 1, 0] rfl ?_
            exact ih27 _ (by ((try simp only [vp_in_iff, Int32.lt_iff_toInt_lt, Int32.le_iff_toInt_le, ← Int32.toInt_inj, Int32.reduceToInt, n_1, n_2, n_8, Int32.toNatClampNeg, Int64.lt_iff_toInt_lt, Int64.le_iff_toInt_le, ← Int64.toInt_inj, Int64.reduceToInt, Int32.toInt_toInt64, lg_cmp_ge, lg_cmp_le, lg_cmp_gt, lg_cmp_lt, lg_cmp_eq, Bool.false_eq_true, Bool.true_eq_false, reduceCtorEq, false_iff, true_iff, iff_true, iff_false, and_true, true_and, and_false, false_and, reduceIte, ite_true, ite_false, eq_self] at *)) <;> omega) _ _ _ ⟨Fs38, ((nx_gb_si hs38).trans (khi28_0)), (by ((try simp only [vp_in_iff, Int32.lt_iff_toInt_lt, Int32.le_iff_toInt_le, ← Int32.toInt_inj, Int32.reduceToInt, n_1, n_2, n_8, Int32.toNatClampNeg, Int64.lt_iff_toInt_lt, Int64.le_iff_toInt_le, ← Int64.toInt_inj, Int64.reduceToInt, Int32.toInt_toInt64, lg_cmp_ge, lg_cmp_le, lg_cmp_gt, lg_cmp_lt, lg_cmp_eq, Bool.false_eq_true, Bool.true_eq_false, reduceCtorEq, false_iff, true_iff, iff_true, iff_false, and_true, true_and, and_false, false_and, reduceIte, ite_true, ite_false, eq_self] at *)) <;> omega), trivial⟩ rfl
          · refine wa_aload_n (i := 0) rfl rfl ?_
            refine wa_getr ck_4 fl_4_19 ly_25 rf_25_3 ?_
            refine wa_iload rfl ?_
            refine wa_iald ly_28 (by ((try simp only [vp_in_iff, Int32.lt_iff_toInt_lt, Int32.le_iff_toInt_le, ← Int32.toInt_inj, Int32.reduceToInt, n_1, n_2, n_8, Int32.toNatClampNeg, Int64.lt_iff_toInt_lt, Int64.le_iff_toInt_le, ← Int64.toInt_inj, Int64.reduceToInt, Int32.toInt_toInt64, lg_cmp_ge, lg_cmp_le, lg_cmp_gt, lg_cmp_lt, lg_cmp_eq, Bool.false_eq_true, Bool.true_eq_false, reduceCtorEq, false_iff, true_iff, iff_true, iff_false, and_true, true_and, and_false, false_and, reduceIte, ite_true, ite_false, eq_self] at *)) <;> omega) ?_
            refine wa_if_ne o_X4_divisorOf_93 (by decide) (fun h41 => ?_) (fun h41 => ?_)
            · refine wa_iconst (v := 0) (by decide) ?_
              refine wa_iand ?_
              refine wa_rw (bI_and (a := l5) (b := false) rfl rfl) ?_
              refine wa_istoreD (lv' := [(5, .int (bI (l5 && false))), (0, .ref 25), (1, .int a0), (3, .long v3), (6, .int l6)]) (by decide) rfl ?_
              refine wa_iinc (v := (1)) (lv' := fun y42 => [(6, .int y42), (5, .int (bI (l5 && false))), (0, .ref 25), (1, .int a0), (3, .long v3)]) (by decide) rfl (by decide) (fun _ => rfl) (fun y42 hy42 => ?_)
              have ty42 := i_addT hy42.symm
              clear hy42
              refine wa_goto o_X4_divisorOf_44 (by decide) ?_
              refine wa_pick [2, 3, 4, 1, 0] rfl ?_
              exact ih27 _ (by ((try simp only [vp_in_iff, Int32.lt_iff_toInt_lt, Int32.le_iff_toInt_le, ← Int32.toInt_inj, Int32.reduceToInt, n_1, n_2, n_8, Int32.toNatClampNeg, Int64.lt_iff_toInt_lt, Int64.le_iff_toInt_le, ← Int64.toInt_inj, Int64.reduceToInt, Int32.toInt_toInt64, lg_cmp_ge, lg_cmp_le, lg_cmp_gt, lg_cmp_lt, lg_cmp_eq, Bool.false_eq_true, Bool.true_eq_false, reduceCtorEq, false_iff, true_iff, iff_true, iff_false, and_true, true_and, and_false, false_and, reduceIte, ite_true, ite_false, eq_self] at *)) <;> omega) _ _ _ ⟨Fs38, ((nx_gb_si hs38).trans (khi28_0)), (by ((try simp only [vp_in_iff, Int32.lt_iff_toInt_lt, Int32.le_iff_toInt_le, ← Int32.toInt_inj, Int32.reduceToInt, n_1, n_2, n_8, Int32.toNatClampNeg, Int64.lt_iff_toInt_lt, Int64.le_iff_toInt_le, ← Int64.toInt_inj, Int64.reduceToInt, Int32.toInt_toInt64, lg_cmp_ge, lg_cmp_le, lg_cmp_gt, lg_cmp_lt, lg_cmp_eq, Bool.false_eq_true, Bool.true_eq_false, reduceCtorEq, false_iff, true_iff, iff_true, iff_false, and_true, true_and, and_false, false_and, reduceIte, ite_true, ite_false, eq_self] at *)) <;> omega), trivial⟩ rfl
            · refine wa_iconst (v := 1) (by decide) ?_
              refine wa_goto o_X4_divisorOf_94 (by decide) ?_
              refine wa_iand ?_
              refine wa_rw (bI_and (a := l5) (b := true) rfl rfl) ?_
              refine wa_istoreD (lv' := [(5, .int (bI (l5 && true))), (0, .ref 25), (1, .int a0), (3, .long v3), (6, .int l6)]) (by decide) rfl ?_
              refine wa_iinc (v := (1)) (lv' := fun y43 => [(6, .int y43), (5, .int (bI (l5 && true))), (0, .ref 25), (1, .int a0), (3, .long v3)]) (by decide) rfl (by decide) (fun _ => rfl) (fun y43 hy43 => ?_)
              have ty43 := i_addT hy43.symm
              clear hy43
              refine wa_goto o_X4_divisorOf_44 (by decide) ?_
              refine wa_pick [2, 3, 4, 1, 0] rfl ?_
              exact ih27 _ (by ((try simp only [vp_in_iff, Int32.lt_iff_toInt_lt, Int32.le_iff_toInt_le, ← Int32.toInt_inj, Int32.reduceToInt, n_1, n_2, n_8, Int32.toNatClampNeg, Int64.lt_iff_toInt_lt, Int64.le_iff_toInt_le, ← Int64.toInt_inj, Int64.reduceToInt, Int32.toInt_toInt64, lg_cmp_ge, lg_cmp_le, lg_cmp_gt, lg_cmp_lt, lg_cmp_eq, Bool.false_eq_true, Bool.true_eq_false, reduceCtorEq, false_iff, true_iff, iff_true, iff_false, and_true, true_and, and_false, false_and, reduceIte, ite_true, ite_false, eq_self] at *)) <;> omega) _ _ _ ⟨Fs38, ((nx_gb_si hs38).trans (khi28_0)), (by ((try simp only [vp_in_iff, Int32.lt_iff_toInt_lt, Int32.le_iff_toInt_le, ← Int32.toInt_inj, Int32.reduceToInt, n_1, n_2, n_8, Int32.toNatClampNeg, Int64.lt_iff_toInt_lt, Int64.le_iff_toInt_le, ← Int64.toInt_inj, Int64.reduceToInt, Int32.toInt_toInt64, lg_cmp_ge, lg_cmp_le, lg_cmp_gt, lg_cmp_lt, lg_cmp_eq, Bool.false_eq_true, Bool.true_eq_false, reduceCtorEq, false_iff, true_iff, iff_true, iff_false, and_true, true_and, and_false, false_and, reduceIte, ite_true, ite_false, eq_self] at *)) <;> omega), trivial⟩ rfl
    exact hi28 _ _ _ _ ⟨Fs25, (nxe_gb_sb hs25), (by ((try simp only [vp_in_iff, Int32.lt_iff_toInt_lt, Int32.le_iff_toInt_le, ← Int32.toInt_inj, Int32.reduceToInt, n_1, n_2, n_8, Int32.toNatClampNeg, Int64.lt_iff_toInt_lt, Int64.le_iff_toInt_le, ← Int64.toInt_inj, Int64.reduceToInt, Int32.toInt_toInt64, lg_cmp_ge, lg_cmp_le, lg_cmp_gt, lg_cmp_lt, lg_cmp_eq, Bool.false_eq_true, Bool.true_eq_false, reduceCtorEq, false_iff, true_iff, iff_true, iff_false, and_true, true_and, and_false, false_and, reduceIte, ite_true, ite_false, eq_self] at *)) <;> omega), trivial⟩ rfl
theorem pad_21d : True := trivial
