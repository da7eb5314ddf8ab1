set_option maxHeartbeats 4000000 in
theorem sp_X1_writeAll (G : kG9) {d : Nat} (hd : 2 ≤ d) (σ : St) : Ct G M_X1_writeAll d [.ref 2] σ (fun r σ' => ∃ x : Int32, r = some (.int x) ∧ Sm 2 6 σ σ' ∧ True) := by
  refine wa_start (by decide) rfl (Nat.le_of_ble_eq_true rfl) (lv := [(0, .ref 2)]) rfl o_X1_writeAll_0 rfl ?_
  refine wa_aload_n (i := 0) rfl rfl ?_
  refine wa_geti ck_1 fl_1_40 ly_2 ?_
  refine wa_sipush (v := 248) (by decide) ?_
  refine wa_iadd ?_
  refine wa_top (fun v1 hv1 => ?_)
  have tv1 := i_addT hv1
  clear hv1
  refine wa_iconst (v := 1) (by decide) ?_
  refine wa_isub ?_
  refine wa_top (fun v2 hv2 => ?_)
  have tv2 := i_subT hv2
  clear hv2
  refine wa_sipush (v := 248) (by decide) ?_
  refine wa_idiv (by ((try simp only [vp_in_iff, Int32.lt_iff_toInt_lt, Int32.le_iff_toInt_le, ← Int32.toInt_inj, Int32.reduceToInt, n_1, n_2, n_8, Int32.toNatClampNeg, Int64.lt_iff_toInt_lt, Int64.le_iff_toInt_le, ← Int64.toInt_inj, Int64.reduceToInt, Int32.toInt_toInt64, lg_cmp_ge, lg_cmp_le, lg_cmp_gt, lg_cmp_lt, lg_cmp_eq, Bool.false_eq_true, Bool.true_eq_false, reduceCtorEq, false_iff, true_iff, iff_true, iff_false, and_true, true_and, and_false, false_and, reduceIte, ite_true, ite_false, eq_self] at *)) <;> omega) ?_
  refine wa_top (fun v3 hv3 => ?_)
  have tv3 := i_divT hv3
  clear hv3
  refine wa_istore_nD (lv' := [(1, .int v3), (0, .ref 2)]) (i := 1) rfl (by decide) rfl ?_
  refine wa_iconst (v := 0) (by decide) ?_
  refine wa_istore_nD (lv' := [(2, .int 0), (1, .int v3), (0, .ref 2)]) (i := 2) rfl (by decide) rfl ?_
  refine wa_pick [2, 1, 0] rfl ?_
  have hi6 : ∀ (n9_17 : Nat) (l2 : Int32) (s4 : St), ((Sm 2 6 σ s4) ∧ (0 ≤ l2.toInt) ∧ (True)) → (2147483647 - l2.toInt).toNat = n9_17 → WA G M_X1_writeAll (ZM G M_X1_writeAll d (fun r σ' => ∃ x : Int32, r = some (.int x) ∧ Sm 2 6 σ σ' ∧ True)) B_X1_writeAll_17 [(0, .ref 2), (1, .int v3), (2, .int l2)] [] s4 := by
    intro n9_17
    induction n9_17 using Nat.strongRecOn with
    | _ n9_17 ih5 =>
      intro l2 s4 i9 m9_17
      obtain ⟨Fs4, jhi6_0, -⟩ := i9
      have ul2 := Int32.toInt_lt l2
      have wl2 := Int32.le_toInt l2
      refine wa_iload_n (i := 2) rfl rfl ?_
      refine wa_iload_n (i := 1) rfl rfl ?_
      refine wa_icmp_ge o_X1_writeAll_68 (by decide) (fun h7 => ?_) (fun h7 => ?_)
      · refine wa_aload_n (i := 0) rfl rfl ?_
        refine wa_dup rfl ?_
        refine wa_geti ck_1 fl_1_43 ly_2 ?_
        refine wa_iload_n (i := 1) rfl rfl ?_
        refine wa_iadd ?_
        refine wa_top (fun v8 hv8 => ?_)
        have tv8 := i_addT hv8
        clear hv8
        refine wa_puti ck_1 fl_1_43 ly_2 (fun s9 hs9 => ?_)
        have Fs9 : Sm 2 6 σ s9 := by rw [hs9]; exact Sm.si Fs4 _ _ (by decide) (by decide)
        refine wa_aload_n (i := 0) rfl rfl ?_
        refine wa_iconst (v := 0) (by decide) ?_
        refine wa_puti ck_1 fl_1_40 ly_2 (fun s10 hs10 => ?_)
        have Fs10 : Sm 2 6 σ s10 := by rw [hs10]; exact Sm.si Fs9 _ _ (by decide) (by decide)
        refine wa_iload_n (i := 1) rfl rfl ?_
        refine wa_ireturn rfl rfl ?_
        exact ⟨_, rfl, Fs10, trivial⟩
      · have mh7 := nle_mx h7
        refine wa_aload_n (i := 0) rfl rfl ?_
        refine wa_aload_n (i := 0) rfl rfl ?_
        refine wa_geti ck_1 fl_1_43 ly_2 ?_
        refine wa_iconst (v := 1) (by decide) ?_
        refine wa_iadd ?_
        refine wa_top (fun v11 hv11 => ?_)
        have tv11 := i_addT hv11
        clear hv11
        refine wa_iload_n (i := 2) rfl rfl ?_
        refine wa_iadd ?_
        refine wa_top (fun v12 hv12 => ?_)
        have tv12 := i_addT hv12
        clear hv12
        refine wa_iload_n (i := 2) rfl rfl ?_
        refine wa_sipush (v := 248) (by decide) ?_
        refine wa_imul ?_
        refine wa_top (fun v13 hv13 => ?_)
        have tv13 := i_mulT hv13
        clear hv13
        refine wa_Vv (d9 := d - 1) [.int _, .int _] [] (sp_X1_compose G (d := d - 1) (by omega) s4 _ _) (rfl) rfl rfl (zr (by omega)) mk_X1_compose ly_2 ml_1_57 (Nat.le_of_ble_eq_true rfl) (fun s14 hs14 => ?_)
        obtain ⟨fs14, -⟩ := hs14
        have Fs14 := Sm.tr Fs4 (Sm.wd fs14 (lo' := 2) (hi' := 6) (by decide) (by decide))
        refine wa_aload_n (i := 0) rfl rfl ?_
        refine wa_aload_n (i := 0) rfl rfl ?_
        refine wa_geti ck_1 fl_1_43 ly_2 ?_
        refine wa_rw (Sm.gi fs14 5 (Or.inl (by decide))) ?_
        refine wa_iconst (v := 1) (by decide) ?_
        refine wa_iadd ?_
        refine wa_top (fun v16 hv16 => ?_)
        have tv16 := i_addT hv16
        clear hv16
        refine wa_iload_n (i := 2) rfl rfl ?_
        refine wa_iadd ?_
        refine wa_top (fun v17 hv17 => ?_)
        have tv17 := i_addT hv17
        clear hv17
        refine wa_Vi (d9 := d - 1) [.int _] [] (sp_X1_write G (d := d - 1) (by omega) s14 _) (rfl) rfl rfl (zr (by omega)) mk_X1_write ly_2 ml_1_61 (Nat.le_of_ble_eq_true rfl) (fun x19 s18 hs18 => ?_)
        obtain ⟨bx19, ex19, fs18, -⟩ := pB hs18
        subst ex19
        have Fs18 := Sm.tr Fs14 (Sm.wd fs18 (lo' := 2) (hi' := 6) (by decide) (by decide))
        refine wa_if_ne o_X1_writeAll_62 (by decide) (fun h20 => ?_) (fun h20 => ?_)
        · replace h20 := bI_t (b := bx19) (rfl) h20
          refine wa_iinc (v := (1)) (lv' := fun y21 => [(2, .int y21), (0, .ref 2), (1, .int v3)]) (by decide) rfl (by decide) (fun _ => rfl) (fun y21 hy21 => ?_)
          have ty21 := i_addT hy21.symm
          clear hy21
          refine wa_goto o_X1_writeAll_17 (by decide) ?_
          refine wa_pick [1, 2, 0] rfl ?_
          exact ih5 _ (by ((try simp only [vp_in_iff, Int32.lt_iff_toInt_lt, Int32.le_iff_toInt_le, ← Int32.toInt_inj, Int32.reduceToInt, n_1, n_2, n_8, Int32.toNatClampNeg, Int64.lt_iff_toInt_lt, Int64.le_iff_toInt_le, ← Int64.toInt_inj, Int64.reduceToInt, Int32.toInt_toInt64, lg_cmp_ge, lg_cmp_le, lg_cmp_gt, lg_cmp_lt, lg_cmp_eq, Bool.false_eq_true, Bool.true_eq_false, reduceCtorEq, false_iff, true_iff, iff_true, iff_false, and_true, true_and, and_false, false_and, reduceIte, ite_true, ite_false, eq_self] at *)) <;> omega) _ _ ⟨Fs18, (by ((try simp only [vp_in_iff, Int32.lt_iff_toInt_lt, Int32.le_iff_toInt_le, ← Int32.toInt_inj, Int32.reduceToInt, n_1, n_2, n_8, Int32.toNatClampNeg, Int64.lt_iff_toInt_lt, Int64.le_iff_toInt_le, ← Int64.toInt_inj, Int64.reduceToInt, Int32.toInt_toInt64, lg_cmp_ge, lg_cmp_le, lg_cmp_gt, lg_cmp_lt, lg_cmp_eq, Bool.false_eq_true, Bool.true_eq_false, reduceCtorEq, false_iff, true_iff, iff_true, iff_false, and_true, true_and, and_false, false_and, reduceIte, ite_true, ite_false, eq_self] at *)) <;> omega), trivial⟩ rfl
        · replace h20 := bI_f (b := bx19) (rfl) h20
          refine wa_aload_n (i := 0) rfl rfl ?_
          refine wa_iconst (v := 1) (by decide) ?_
          refine wa_putz true (rfl) ck_1 fl_1_65 ly_2 (fun s22 hs22 => ?_)
          have Fs22 : Sm 2 6 σ s22 := by rw [hs22]; exact Sm.sb Fs18 _ _ (by decide) (by decide)
          refine wa_bipush (v := (-106)) (by decide) ?_
          refine wa_ireturn rfl rfl ?_
          exact ⟨_, rfl, Fs22, trivial⟩
  exact hi6 _ _ _ ⟨(Sm.rf 2 6 σ), (by ((try simp only [vp_in_iff, Int32.lt_iff_toInt_lt, Int32.le_iff_toInt_le, ← Int32.toInt_inj, Int32.reduceToInt, n_1, n_2, n_8, Int32.toNatClampNeg, Int64.lt_iff_toInt_lt, Int64.le_iff_toInt_le, ← Int64.toInt_inj, Int64.reduceToInt, Int32.toInt_toInt64, lg_cmp_ge, lg_cmp_le, lg_cmp_gt, lg_cmp_lt, lg_cmp_eq, Bool.false_eq_true, Bool.true_eq_false, reduceCtorEq, false_iff, true_iff, iff_true, iff_false, and_true, true_and, and_false, false_and, reduceIte, ite_true, ite_false, eq_self] at *)) <;> omega), trivial⟩ rfl
set_option maxHeartbeats 4000000 in
theorem sp_X1_isRight (G : kG9) {d : Nat} (hd : 2 ≤ d) (σ : St) (a0 : Int32) : Ct G M_X1_isRight d [.ref 2, .int a0] σ (fun r σ' => ∃ x : Bool, r = some (.int (bI x)) ∧ σ = σ' ∧ True) := by
  refine wa_start (by decide) rfl (Nat.le_of_ble_eq_true rfl) (lv := [(0, .ref 2), (1, .int a0)]) rfl o_X1_isRight_0 rfl ?_
  have ua0 := Int32.toInt_lt a0
  have wa0 := Int32.le_toInt a0
  refine wa_iload_n (i := 1) rfl rfl ?_
  refine wa_iconst (v := 1) (by decide) ?_
  refine wa_icmp_lt o_X1_isRight_20 (by decide) (fun h1 => ?_) (fun h1 => ?_)
  · refine wa_iconst (v := 0) (by decide) ?_
    refine wa_zreturn false (rfl) rfl rfl ?_
    exact ⟨_, rfl, rfl, trivial⟩
  · refine wa_iload_n (i := 1) rfl rfl ?_
    refine wa_bipush (v := 100) (by decide) ?_
    refine wa_icmp_gt o_X1_isRight_20 (by decide) (fun h2 => ?_) (fun h2 => ?_)
    · refine wa_iconst (v := 0) (by decide) ?_
      refine wa_zreturn false (rfl) rfl rfl ?_
      exact ⟨_, rfl, rfl, trivial⟩
    · refine wa_aload_n (i := 0) rfl rfl ?_
      refine wa_getr ck_1 fl_1_15 ly_2 rf_2_1 ?_
      refine wa_iload_n (i := 1) rfl rfl ?_
      refine wa_zald ly_4 (by ((try simp only [vp_in_iff, Int32.lt_iff_toInt_lt, Int32.le_iff_toInt_le, ← Int32.toInt_inj, Int32.reduceToInt, n_1, n_2, n_8, Int32.toNatClampNeg, Int64.lt_iff_toInt_lt, Int64.le_iff_toInt_le, ← Int64.toInt_inj, Int64.reduceToInt, Int32.toInt_toInt64, lg_cmp_ge, lg_cmp_le, lg_cmp_gt, lg_cmp_lt, lg_cmp_eq, Bool.false_eq_true, Bool.true_eq_false, reduceCtorEq, false_iff, true_iff, iff_true, iff_false, and_true, true_and, and_false, false_and, reduceIte, ite_true, ite_false, eq_self] at *)) <;> omega) ?_
      refine wa_if_eq o_X1_isRight_22 (by decide) (fun h3 => ?_) (fun h3 => ?_)
      · replace h3 := bI_f (b := (gb σ 4 (a0).toNatClampNeg)) (rfl) h3
        refine wa_aload_n (i := 0) rfl rfl ?_
        refine wa_iload_n (i := 1) rfl rfl ?_
        refine wa_iconst (v := 2) (by decide) ?_
        refine wa_Vi (d9 := d - 1) [.int _, .int _] [] (sp_X1_byteOf G (d := d - 1) (by omega) σ _ _) (rfl) rfl rfl (zr (by omega)) mk_X1_byteOf ly_2 ml_1_33 (Nat.le_of_ble_eq_true rfl) (fun x5 s4 hs4 => ?_)
        obtain ⟨zs4, -⟩ := pI hs4
        subst zs4
        refine wa_istore_nD (lv' := [(2, .int x5), (0, .ref 2), (1, .int a0)]) (i := 2) rfl (by decide) rfl ?_
        refine wa_aload_n (i := 0) rfl rfl ?_
        refine wa_iload_n (i := 1) rfl rfl ?_
        refine wa_iconst (v := 3) (by decide) ?_
        refine wa_Vi (d9 := d - 1) [.int _, .int _] [] (sp_X1_byteOf G (d := d - 1) (by omega) σ _ _) (rfl) rfl rfl (zr (by omega)) mk_X1_byteOf ly_2 ml_1_33 (Nat.le_of_ble_eq_true rfl) (fun x7 s6 hs6 => ?_)
        obtain ⟨zs6, -⟩ := pI hs6
        subst zs6
        refine wa_istore_nD (lv' := [(3, .int x7), (2, .int x5), (0, .ref 2), (1, .int a0)]) (i := 3) rfl (by decide) rfl ?_
        refine wa_iload_n (i := 2) rfl rfl ?_
        refine wa_if_ne o_X1_isRight_55 (by decide) (fun h8 => ?_) (fun h8 => ?_)
        · refine wa_iload_n (i := 2) rfl rfl ?_
          refine wa_iconst (v := 1) (by decide) ?_
          refine wa_icmp_ne o_X1_isRight_76 (by decide) (fun h9 => ?_) (fun h9 => ?_)
          · refine wa_iconst (v := 0) (by decide) ?_
            refine wa_istoreD (lv' := [(4, .int (bI false)), (3, .int x7), (2, .int x5), (0, .ref 2), (1, .int a0)]) (by decide) rfl ?_
            refine wa_iload rfl ?_
            refine wa_if_eq o_X1_isRight_104 (by decide) (fun h10 => ?_) (fun h10 => ?_)
            · replace h10 := bI_f (b := false) (rfl) h10
              refine wa_iconst (v := 0) (by decide) ?_
              refine wa_zreturn false (rfl) rfl rfl ?_
              exact ⟨_, rfl, rfl, trivial⟩
            · replace h10 := bI_t (b := false) (rfl) h10
              refine wa_aload_n (i := 0) rfl rfl ?_
              refine wa_iload_n (i := 1) rfl rfl ?_
              refine wa_iconst (v := 0) (by decide) ?_
              refine wa_Vi (d9 := d - 1) [.int _, .int _] [] (sp_X1_byteOf G (d := d - 1) (by omega) σ _ _) (rfl) rfl rfl (zr (by omega)) mk_X1_byteOf ly_2 ml_1_33 (Nat.le_of_ble_eq_true rfl) (fun x12 s11 hs11 => ?_)
              obtain ⟨zs11, -⟩ := pI hs11
              subst zs11
              refine wa_bipush (v := 8) (by decide) ?_
              refine wa_ishl ?_
              refine wa_top (fun v13 hv13 => ?_)
              clear hv13
              refine wa_aload_n (i := 0) rfl rfl ?_
              refine wa_iload_n (i := 1) rfl rfl ?_
              refine wa_iconst (v := 1) (by decide) ?_
              refine wa_Vi (d9 := d - 1) [.int _, .int _] [.int v13] (sp_X1_byteOf G (d := d - 1) (by omega) σ _ _) (rfl) rfl rfl (zr (by omega)) mk_X1_byteOf ly_2 ml_1_33 (Nat.le_of_ble_eq_true rfl) (fun x15 s14 hs14 => ?_)
              obtain ⟨zs14, -⟩ := pI hs14
              subst zs14
              refine wa_ior ?_
              refine wa_top (fun v16 hv16 => ?_)
              clear hv16
              refine wa_iload_n (i := 1) rfl rfl ?_
              refine wa_icmp_eq o_X1_isRight_106 (by decide) (fun h17 => ?_) (fun h17 => ?_)
              · refine wa_iconst (v := 0) (by decide) ?_
                refine wa_istoreD (lv' := [(5, .int 0), (4, .int (bI false)), (3, .int x7), (2, .int x5), (0, .ref 2), (1, .int a0)]) (by decide) rfl ?_
                refine wa_iconst (v := 0) (by decide) ?_
                refine wa_istoreD (lv' := [(6, .int 0), (5, .int 0), (4, .int (bI false)), (3, .int x7), (2, .int x5), (0, .ref 2), (1, .int a0)]) (by decide) rfl ?_
                refine wa_pick [5, 6, 1, 0] rfl ?_
                have hi19 : ∀ (n9_112 : Nat) (l5 : Int32) (l6 : Int32), ((0 ≤ l6.toInt) ∧ (True)) → (2147483647 - l6.toInt).toNat = n9_112 → WA G M_X1_isRight (ZM G M_X1_isRight d (fun r σ' => ∃ x : Bool, r = some (.int (bI x)) ∧ σ = σ' ∧ True)) B_X1_isRight_112 [(0, .ref 2), (1, .int a0), (5, .int l5), (6, .int l6)] [] σ := by
                  intro n9_112
                  induction n9_112 using Nat.strongRecOn with
                  | _ n9_112 ih18 =>
                    intro l5 l6  i9 m9_112
                    obtain ⟨jhi19_0, -⟩ := i9
                    have ul5 := Int32.toInt_lt l5
                    have wl5 := Int32.le_toInt l5
                    have ul6 := Int32.toInt_lt l6
                    have wl6 := Int32.le_toInt l6
                    refine wa_iload rfl ?_
                    refine wa_sipush (v := 252) (by decide) ?_
                    refine wa_icmp_ge o_X1_isRight_140 (by decide) (fun h20 => ?_) (fun h20 => ?_)
                    · refine wa_iconst (v := 0) (by decide) ?_
                      refine wa_istoreD (lv' := [(6, .int 0), (0, .ref 2), (1, .int a0), (5, .int l5)]) (by decide) rfl ?_
                      refine wa_sipush (v := 252) (by decide) ?_
                      refine wa_istoreD (lv' := [(7, .int 252), (6, .int 0), (0, .ref 2), (1, .int a0), (5, .int l5)]) (by decide) rfl ?_
                      refine wa_pick [2, 3, 4, 1, 0] rfl ?_
                      have hi22 : ∀ (n9_148 : Nat) (l6 : Int32) (l7 : Int32), ((0 ≤ l7.toInt) ∧ (True)) → (2147483647 - l7.toInt).toNat = n9_148 → WA G M_X1_isRight (ZM G M_X1_isRight d (fun r σ' => ∃ x : Bool, r = some (.int (bI x)) ∧ σ = σ' ∧ True)) B_X1_isRight_148 [(0, .ref 2), (1, .int a0), (5, .int l5), (6, .int l6), (7, .int l7)] [] σ := by
                        intro n9_148
                        induction n9_148 using Nat.strongRecOn with
                        | _ n9_148 ih21 =>
                          intro l6 l7  i9 m9_148
                          obtain ⟨jhi22_0, -⟩ := i9
                          have ul6 := Int32.toInt_lt l6
                          have wl6 := Int32.le_toInt l6
                          have ul7 := Int32.toInt_lt l7
                          have wl7 := Int32.le_toInt l7
                          refine wa_iload rfl ?_
                          refine wa_sipush (v := 256) (by decide) ?_
                          refine wa_icmp_ge o_X1_isRight_177 (by decide) (fun h23 => ?_) (fun h23 => ?_)
                          · refine wa_iload rfl ?_
                            refine wa_iload rfl ?_
                            refine wa_icmp_ne o_X1_isRight_188 (by decide) (fun h24 => ?_) (fun h24 => ?_)
                            · refine wa_iconst (v := 0) (by decide) ?_
                              refine wa_zreturn false (rfl) rfl rfl ?_
                              exact ⟨_, rfl, rfl, trivial⟩
                            · refine wa_iconst (v := 1) (by decide) ?_
                              refine wa_goto o_X1_isRight_189 (by decide) ?_
                              refine wa_zreturn true (rfl) rfl rfl ?_
                              exact ⟨_, rfl, rfl, trivial⟩
                          · have mh23 := nle_mx h23
                            refine wa_iload rfl ?_
                            refine wa_bipush (v := 8) (by decide) ?_
                            refine wa_ishl ?_
                            refine wa_top (fun v25 hv25 => ?_)
                            clear hv25
                            refine wa_aload_n (i := 0) rfl rfl ?_
                            refine wa_iload_n (i := 1) rfl rfl ?_
                            refine wa_iload rfl ?_
                            refine wa_Vi (d9 := d - 1) [.int _, .int _] [.int v25] (sp_X1_byteOf G (d := d - 1) (by omega) σ _ _) (rfl) rfl rfl (zr (by omega)) mk_X1_byteOf ly_2 ml_1_33 (Nat.le_of_ble_eq_true rfl) (fun x27 s26 hs26 => ?_)
                            obtain ⟨zs26, -⟩ := pI hs26
                            subst zs26
                            refine wa_ior ?_
                            refine wa_top (fun v28 hv28 => ?_)
                            clear hv28
                            refine wa_istoreD (lv' := [(6, .int v28), (0, .ref 2), (1, .int a0), (5, .int l5), (7, .int l7)]) (by decide) rfl ?_
                            refine wa_iinc (v := (1)) (lv' := fun y29 => [(7, .int y29), (6, .int v28), (0, .ref 2), (1, .int a0), (5, .int l5)]) (by decide) rfl (by decide) (fun _ => rfl) (fun y29 hy29 => ?_)
                            have ty29 := i_addT hy29.symm
                            clear hy29
                            refine wa_goto o_X1_isRight_148 (by decide) ?_
                            refine wa_pick [2, 3, 4, 1, 0] rfl ?_
                            exact ih21 _ (by ((try simp only [vp_in_iff, Int32.lt_iff_toInt_lt, Int32.le_iff_toInt_le, ← Int32.toInt_inj, Int32.reduceToInt, n_1, n_2, n_8, Int32.toNatClampNeg, Int64.lt_iff_toInt_lt, Int64.le_iff_toInt_le, ← Int64.toInt_inj, Int64.reduceToInt, Int32.toInt_toInt64, lg_cmp_ge, lg_cmp_le, lg_cmp_gt, lg_cmp_lt, lg_cmp_eq, Bool.false_eq_true, Bool.true_eq_false, reduceCtorEq, false_iff, true_iff, iff_true, iff_false, and_true, true_and, and_false, false_and, reduceIte, ite_true, ite_false, eq_self] at *)) <;> omega) _ _ ⟨(by ((try simp only [vp_in_iff, Int32.lt_iff_toInt_lt, Int32.le_iff_toInt_le, ← Int32.toInt_inj, Int32.reduceToInt, n_1, n_2, n_8, Int32.toNatClampNeg, Int64.lt_iff_toInt_lt, Int64.le_iff_toInt_le, ← Int64.toInt_inj, Int64.reduceToInt, Int32.toInt_toInt64, lg_cmp_ge, lg_cmp_le, lg_cmp_gt, lg_cmp_lt, lg_cmp_eq, Bool.false_eq_true, Bool.true_eq_false, reduceCtorEq, false_iff, true_iff, iff_true, iff_false, and_true, true_and, and_false, false_and, reduceIte, ite_true, ite_false, eq_self] at *)) <;> omega), trivial⟩ rfl
                      exact hi22 _ _ _ ⟨(by ((try simp only [vp_in_iff, Int32.lt_iff_toInt_lt, Int32.le_iff_toInt_le, ← Int32.toInt_inj, Int32.reduceToInt, n_1, n_2, n_8, Int32.toNatClampNeg, Int64.lt_iff_toInt_lt, Int64.le_iff_toInt_le, ← Int64.toInt_inj, Int64.reduceToInt, Int32.toInt_toInt64, lg_cmp_ge, lg_cmp_le, lg_cmp_gt, lg_cmp_lt, lg_cmp_eq, Bool.false_eq_true, Bool.true_eq_false, reduceCtorEq, false_iff, true_iff, iff_true, iff_false, and_true, true_and, and_false, false_and, reduceIte, ite_true, ite_false, eq_self] at *)) <;> omega), trivial⟩ rfl
                    · have mh20 := nle_mx h20
                      refine wa_iload rfl ?_
                      refine wa_aload_n (i := 0) rfl rfl ?_
                      refine wa_iload_n (i := 1) rfl rfl ?_
                      refine wa_iload rfl ?_
                      refine wa_Vi (d9 := d - 1) [.int _, .int _] [.int l5] (sp_X1_byteOf G (d := d - 1) (by omega) σ _ _) (rfl) rfl rfl (zr (by omega)) mk_X1_byteOf ly_2 ml_1_33 (Nat.le_of_ble_eq_true rfl) (fun x31 s30 hs30 => ?_)
                      obtain ⟨zs30, -⟩ := pI hs30
                      subst zs30
                      refine wa_Si (d9 := d - 1) [.int _, .int _] [] (sp_X1_summed G (d := d - 1) (by omega) σ _ _) (rfl) rfl rfl (zr (by omega)) mk_X1_summed ml_1_74 (Nat.le_of_ble_eq_true rfl) (fun x33 s32 hs32 => ?_)
                      obtain ⟨zs32, -⟩ := pI hs32
                      subst zs32
                      refine wa_istoreD (lv' := [(5, .int x33), (0, .ref 2), (1, .int a0), (6, .int l6)]) (by decide) rfl ?_
                      refine wa_iinc (v := (1)) (lv' := fun y34 => [(6, .int y34), (5, .int x33), (0, .ref 2), (1, .int a0)]) (by decide) rfl (by decide) (fun _ => rfl) (fun y34 hy34 => ?_)
                      have ty34 := i_addT hy34.symm
                      clear hy34
                      refine wa_goto o_X1_isRight_112 (by decide) ?_
                      refine wa_pick [2, 3, 1, 0] rfl ?_
                      exact ih18 _ (by ((try simp only [vp_in_iff, Int32.lt_iff_toInt_lt, Int32.le_iff_toInt_le, ← Int32.toInt_inj, Int32.reduceToInt, n_1, n_2, n_8, Int32.toNatClampNeg, Int64.lt_iff_toInt_lt, Int64.le_iff_toInt_le, ← Int64.toInt_inj, Int64.reduceToInt, Int32.toInt_toInt64, lg_cmp_ge, lg_cmp_le, lg_cmp_gt, lg_cmp_lt, lg_cmp_eq, Bool.false_eq_true, Bool.true_eq_false, reduceCtorEq, false_iff, true_iff, iff_true, iff_false, and_true, true_and, and_false, false_and, reduceIte, ite_true, ite_false, eq_self] at *)) <;> omega) _ _ ⟨(by ((try simp only [vp_in_iff, Int32.lt_iff_toInt_lt, Int32.le_iff_toInt_le, ← Int32.toInt_inj, Int32.reduceToInt, n_1, n_2, n_8, Int32.toNatClampNeg, Int64.lt_iff_toInt_lt, Int64.le_iff_toInt_le, ← Int64.toInt_inj, Int64.reduceToInt, Int32.toInt_toInt64, lg_cmp_ge, lg_cmp_le, lg_cmp_gt, lg_cmp_lt, lg_cmp_eq, Bool.false_eq_true, Bool.true_eq_false, reduceCtorEq, false_iff, true_iff, iff_true, iff_false, and_true, true_and, and_false, false_and, reduceIte, ite_true, ite_false, eq_self] at *)) <;> omega), trivial⟩ rfl
                exact hi19 _ _ _ ⟨(by ((try simp only [vp_in_iff, Int32.lt_iff_toInt_lt, Int32.le_iff_toInt_le, ← Int32.toInt_inj, Int32.reduceToInt, n_1, n_2, n_8, Int32.toNatClampNeg, Int64.lt_iff_toInt_lt, Int64.le_iff_toInt_le, ← Int64.toInt_inj, Int64.reduceToInt, Int32.toInt_toInt64, lg_cmp_ge, lg_cmp_le, lg_cmp_gt, lg_cmp_lt, lg_cmp_eq, Bool.false_eq_true, Bool.true_eq_false, reduceCtorEq, false_iff, true_iff, iff_true, iff_false, and_true, true_and, and_false, false_and, reduceIte, ite_true, ite_false, eq_self] at *)) <;> omega), trivial⟩ rfl
              · refine wa_iconst (v := 0) (by decide) ?_
                refine wa_zreturn false (rfl) rfl rfl ?_
                exact ⟨_, rfl, rfl, trivial⟩
          · refine wa_iload_n (i := 3) rfl rfl ?_
            refine wa_iconst (v := 1) (by decide) ?_
            refine wa_icmp_lt o_X1_isRight_76 (by decide) (fun h35 => ?_) (fun h35 => ?_)
            · refine wa_iconst (v := 0) (by decide) ?_
              refine wa_istoreD (lv' := [(4, .int (bI false)), (3, .int x7), (2, .int x5), (0, .ref 2), (1, .int a0)]) (by decide) rfl ?_
              refine wa_iload rfl ?_
              refine wa_if_eq o_X1_isRight_104 (by decide) (fun h36 => ?_) (fun h36 => ?_)
              · replace h36 := bI_f (b := false) (rfl) h36
                refine wa_iconst (v := 0) (by decide) ?_
                refine wa_zreturn false (rfl) rfl rfl ?_
                exact ⟨_, rfl, rfl, trivial⟩
              · replace h36 := bI_t (b := false) (rfl) h36
                refine wa_aload_n (i := 0) rfl rfl ?_
                refine wa_iload_n (i := 1) rfl rfl ?_
                refine wa_iconst (v := 0) (by decide) ?_
                refine wa_Vi (d9 := d - 1) [.int _, .int _] [] (sp_X1_byteOf G (d := d - 1) (by omega) σ _ _) (rfl) rfl rfl (zr (by omega)) mk_X1_byteOf ly_2 ml_1_33 (Nat.le_of_ble_eq_true rfl) (fun x38 s37 hs37 => ?_)
                obtain ⟨zs37, -⟩ := pI hs37
                subst zs37
                refine wa_bipush (v := 8) (by decide) ?_
                refine wa_ishl ?_
                refine wa_top (fun v39 hv39 => ?_)
                clear hv39
                refine wa_aload_n (i := 0) rfl rfl ?_
                refine wa_iload_n (i := 1) rfl rfl ?_
                refine wa_iconst (v := 1) (by decide) ?_
                refine wa_Vi (d9 := d - 1) [.int _, .int _] [.int v39] (sp_X1_byteOf G (d := d - 1) (by omega) σ _ _) (rfl) rfl rfl (zr (by omega)) mk_X1_byteOf ly_2 ml_1_33 (Nat.le_of_ble_eq_true rfl) (fun x41 s40 hs40 => ?_)
                obtain ⟨zs40, -⟩ := pI hs40
                subst zs40
                refine wa_ior ?_
                refine wa_top (fun v42 hv42 => ?_)
                clear hv42
                refine wa_iload_n (i := 1) rfl rfl ?_
                refine wa_icmp_eq o_X1_isRight_106 (by decide) (fun h43 => ?_) (fun h43 => ?_)
                · refine wa_iconst (v := 0) (by decide) ?_
                  refine wa_istoreD (lv' := [(5, .int 0), (4, .int (bI false)), (3, .int x7), (2, .int x5), (0, .ref 2), (1, .int a0)]) (by decide) rfl ?_
                  refine wa_iconst (v := 0) (by decide) ?_
                  refine wa_istoreD (lv' := [(6, .int 0), (5, .int 0), (4, .int (bI false)), (3, .int x7), (2, .int x5), (0, .ref 2), (1, .int a0)]) (by decide) rfl ?_
                  refine wa_pick [5, 6, 1, 0] rfl ?_
                  have hi45 : ∀ (n9_112 : Nat) (l5 : Int32) (l6 : Int32), ((0 ≤ l6.toInt) ∧ (True)) → (2147483647 - l6.toInt).toNat = n9_112 → WA G M_X1_isRight (ZM G M_X1_isRight d (fun r σ' => ∃ x : Bool, r = some (.int (bI x)) ∧ σ = σ' ∧ True)) B_X1_isRight_112 [(0, .ref 2), (1, .int a0), (5, .int l5), (6, .int l6)] [] σ := by
                    intro n9_112
                    induction n9_112 using Nat.strongRecOn with
                    | _ n9_112 ih44 =>
                      intro l5 l6  i9 m9_112
                      obtain ⟨jhi45_0, -⟩ := i9
                      have ul5 := Int32.toInt_lt l5
                      have wl5 := Int32.le_toInt l5
                      have ul6 := Int32.toInt_lt l6
                      have wl6 := Int32.le_toInt l6
                      refine wa_iload rfl ?_
                      refine wa_sipush (v := 252) (by decide) ?_
                      refine wa_icmp_ge o_X1_isRight_140 (by decide) (fun h46 => ?_) (fun h46 => ?_)
                      · refine wa_iconst (v := 0) (by decide) ?_
                        refine wa_istoreD (lv' := [(6, .int 0), (0, .ref 2), (1, .int a0), (5, .int l5)]) (by decide) rfl ?_
                        refine wa_sipush (v := 252) (by decide) ?_
                        refine wa_istoreD (lv' := [(7, .int 252), (6, .int 0), (0, .ref 2), (1, .int a0), (5, .int l5)]) (by decide) rfl ?_
                        refine wa_pick [2, 3, 4, 1, 0] rfl ?_
                        have hi48 : ∀ (n9_148 : Nat) (l6 : Int32) (l7 : Int32), ((0 ≤ l7.toInt) ∧ (True)) → (2147483647 - l7.toInt).toNat = n9_148 → WA G M_X1_isRight (ZM G M_X1_isRight d (fun r σ' => ∃ x : Bool, r = some (.int (bI x)) ∧ σ = σ' ∧ True)) B_X1_isRight_148 [(0, .ref 2), (1, .int a0), (5, .int l5), (6, .int l6), (7, .int l7)] [] σ := by
                          intro n9_148
                          induction n9_148 using Nat.strongRecOn with
                          | _ n9_148 ih47 =>
                            intro l6 l7  i9 m9_148
                            obtain ⟨jhi48_0, -⟩ := i9
                            have ul6 := Int32.toInt_lt l6
                            have wl6 := Int32.le_toInt l6
                            have ul7 := Int32.toInt_lt l7
                            have wl7 := Int32.le_toInt l7
                            refine wa_iload rfl ?_
                            refine wa_sipush (v := 256) (by decide) ?_
                            refine wa_icmp_ge o_X1_isRight_177 (by decide) (fun h49 => ?_) (fun h49 => ?_)
                            · refine wa_iload rfl ?_
                              refine wa_iload rfl ?_
                              refine wa_icmp_ne o_X1_isRight_188 (by decide) (fun h50 => ?_) (fun h50 => ?_)
                              · refine wa_iconst (v := 0) (by decide) ?_
                                refine wa_zreturn false (rfl) rfl rfl ?_
                                exact ⟨_, rfl, rfl, trivial⟩
                              · refine wa_iconst (v := 1) (by decide) ?_
                                refine wa_goto o_X1_isRight_189 (by decide) ?_
                                refine wa_zreturn true (rfl) rfl rfl ?_
                                exact ⟨_, rfl, rfl, trivial⟩
                            · have mh49 := nle_mx h49
                              refine wa_iload rfl ?_
                              refine wa_bipush (v := 8) (by decide) ?_
                              refine wa_ishl ?_
                              refine wa_top (fun v51 hv51 => ?_)
                              clear hv51
                              refine wa_aload_n (i := 0) rfl rfl ?_
                              refine wa_iload_n (i := 1) rfl rfl ?_
                              refine wa_iload rfl ?_
                              refine wa_Vi (d9 := d - 1) [.int _, .int _] [.int v51] (sp_X1_byteOf G (d := d - 1) (by omega) σ _ _) (rfl) rfl rfl (zr (by omega)) mk_X1_byteOf ly_2 ml_1_33 (Nat.le_of_ble_eq_true rfl) (fun x53 s52 hs52 => ?_)
                              obtain ⟨zs52, -⟩ := pI hs52
                              subst zs52
                              refine wa_ior ?_
                              refine wa_top (fun v54 hv54 => ?_)
                              clear hv54
                              refine wa_istoreD (lv' := [(6, .int v54), (0, .ref 2), (1, .int a0), (5, .int l5), (7, .int l7)]) (by decide) rfl ?_
                              refine wa_iinc (v := (1)) (lv' := fun y55 => [(7, .int y55), (6, .int v54), (0, .ref 2), (1, .int a0), (5, .int l5)]) (by decide) rfl (by decide) (fun _ => rfl) (fun y55 hy55 => ?_)
                              have ty55 := i_addT hy55.symm
                              clear hy55
                              refine wa_goto o_X1_isRight_148 (by decide) ?_
                              refine wa_pick [2, 3, 4, 1, 0] rfl ?_
                              exact ih47 _ (by ((try simp only [vp_in_iff, Int32.lt_iff_toInt_lt, Int32.le_iff_toInt_le, ← Int32.toInt_inj, Int32.reduceToInt, n_1, n_2, n_8, Int32.toNatClampNeg, Int64.lt_iff_toInt_lt, Int64.le_iff_toInt_le, ← Int64.toInt_inj, Int64.reduceToInt, Int32.toInt_toInt64, lg_cmp_ge, lg_cmp_le, lg_cmp_gt, lg_cmp_lt, lg_cmp_eq, Bool.false_eq_true, Bool.true_eq_false, reduceCtorEq, false_iff, true_iff, iff_true, iff_false, and_true, true_and, and_false, false_and, reduceIte, ite_true, ite_false, eq_self] at *)) <;> omega) _ _ ⟨(by ((try simp only [vp_in_iff, Int32.lt_iff_toInt_lt, Int32.le_iff_toInt_le, ← Int32.toInt_inj, Int32.reduceToInt, n_1, n_2, n_8, Int32.toNatClampNeg, Int64.lt_iff_toInt_lt, Int64.le_iff_toInt_le, ← Int64.toInt_inj, Int64.reduceToInt, Int32.toInt_toInt64, lg_cmp_ge, lg_cmp_le, lg_cmp_gt, lg_cmp_lt, lg_cmp_eq, Bool.false_eq_true, Bool.true_eq_false, reduceCtorEq, false_iff, true_iff, iff_true, iff_false, and_true, true_and, and_false, false_and, reduceIte, ite_true, ite_false, eq_self] at *)) <;> omega), trivial⟩ rfl
                        exact hi48 _ _ _ ⟨(by ((try simp only [vp_in_iff, Int32.lt_iff_toInt_lt, Int32.le_iff_toInt_le, ← Int32.toInt_inj, Int32.reduceToInt, n_1, n_2, n_8, Int32.toNatClampNeg, Int64.lt_iff_toInt_lt, Int64.le_iff_toInt_le, ← Int64.toInt_inj, Int64.reduceToInt, Int32.toInt_toInt64, lg_cmp_ge, lg_cmp_le, lg_cmp_gt, lg_cmp_lt, lg_cmp_eq, Bool.false_eq_true, Bool.true_eq_false, reduceCtorEq, false_iff, true_iff, iff_true, iff_false, and_true, true_and, and_false, false_and, reduceIte, ite_true, ite_false, eq_self] at *)) <;> omega), trivial⟩ rfl
                      · have mh46 := nle_mx h46
                        refine wa_iload rfl ?_
                        refine wa_aload_n (i := 0) rfl rfl ?_
                        refine wa_iload_n (i := 1) rfl rfl ?_
                        refine wa_iload rfl ?_
                        refine wa_Vi (d9 := d - 1) [.int _, .int _] [.int l5] (sp_X1_byteOf G (d := d - 1) (by omega) σ _ _) (rfl) rfl rfl (zr (by omega)) mk_X1_byteOf ly_2 ml_1_33 (Nat.le_of_ble_eq_true rfl) (fun x57 s56 hs56 => ?_)
                        obtain ⟨zs56, -⟩ := pI hs56
                        subst zs56
                        refine wa_Si (d9 := d - 1) [.int _, .int _] [] (sp_X1_summed G (d := d - 1) (by omega) σ _ _) (rfl) rfl rfl (zr (by omega)) mk_X1_summed ml_1_74 (Nat.le_of_ble_eq_true rfl) (fun x59 s58 hs58 => ?_)
                        obtain ⟨zs58, -⟩ := pI hs58
                        subst zs58
                        refine wa_istoreD (lv' := [(5, .int x59), (0, .ref 2), (1, .int a0), (6, .int l6)]) (by decide) rfl ?_
                        refine wa_iinc (v := (1)) (lv' := fun y60 => [(6, .int y60), (5, .int x59), (0, .ref 2), (1, .int a0)]) (by decide) rfl (by decide) (fun _ => rfl) (fun y60 hy60 => ?_)
                        have ty60 := i_addT hy60.symm
                        clear hy60
                        refine wa_goto o_X1_isRight_112 (by decide) ?_
                        refine wa_pick [2, 3, 1, 0] rfl ?_
                        exact ih44 _ (by ((try simp only [vp_in_iff, Int32.lt_iff_toInt_lt, Int32.le_iff_toInt_le, ← Int32.toInt_inj, Int32.reduceToInt, n_1, n_2, n_8, Int32.toNatClampNeg, Int64.lt_iff_toInt_lt, Int64.le_iff_toInt_le, ← Int64.toInt_inj, Int64.reduceToInt, Int32.toInt_toInt64, lg_cmp_ge, lg_cmp_le, lg_cmp_gt, lg_cmp_lt, lg_cmp_eq, Bool.false_eq_true, Bool.true_eq_false, reduceCtorEq, false_iff, true_iff, iff_true, iff_false, and_true, true_and, and_false, false_and, reduceIte, ite_true, ite_false, eq_self] at *)) <;> omega) _ _ ⟨(by ((try simp only [vp_in_iff, Int32.lt_iff_toInt_lt, Int32.le_iff_toInt_le, ← Int32.toInt_inj, Int32.reduceToInt, n_1, n_2, n_8, Int32.toNatClampNeg, Int64.lt_iff_toInt_lt, Int64.le_iff_toInt_le, ← Int64.toInt_inj, Int64.reduceToInt, Int32.toInt_toInt64, lg_cmp_ge, lg_cmp_le, lg_cmp_gt, lg_cmp_lt, lg_cmp_eq, Bool.false_eq_true, Bool.true_eq_false, reduceCtorEq, false_iff, true_iff, iff_true, iff_false, and_true, true_and, and_false, false_and, reduceIte, ite_true, ite_false, eq_self] at *)) <;> omega), trivial⟩ rfl
                  exact hi45 _ _ _ ⟨(by ((try simp only [vp_in_iff, Int32.lt_iff_toInt_lt, Int32.le_iff_toInt_le, ← Int32.toInt_inj, Int32.reduceToInt, n_1, n_2, n_8, Int32.toNatClampNeg, Int64.lt_iff_toInt_lt, Int64.le_iff_toInt_le, ← Int64.toInt_inj, Int64.reduceToInt, Int32.toInt_toInt64, lg_cmp_ge, lg_cmp_le, lg_cmp_gt, lg_cmp_lt, lg_cmp_eq, Bool.false_eq_true, Bool.true_eq_false, reduceCtorEq, false_iff, true_iff, iff_true, iff_false, and_true, true_and, and_false, false_and, reduceIte, ite_true, ite_false, eq_self] at *)) <;> omega), trivial⟩ rfl
                · refine wa_iconst (v := 0) (by decide) ?_
                  refine wa_zreturn false (rfl) rfl rfl ?_
                  exact ⟨_, rfl, rfl, trivial⟩
            · refine wa_iload_n (i := 3) rfl rfl ?_
              refine wa_sipush (v := 248) (by decide) ?_
              refine wa_icmp_gt o_X1_isRight_76 (by decide) (fun h61 => ?_) (fun h61 => ?_)
              · refine wa_iconst (v := 0) (by decide) ?_
                refine wa_istoreD (lv' := [(4, .int (bI false)), (3, .int x7), (2, .int x5), (0, .ref 2), (1, .int a0)]) (by decide) rfl ?_
                refine wa_iload rfl ?_
                refine wa_if_eq o_X1_isRight_104 (by decide) (fun h62 => ?_) (fun h62 => ?_)
                · replace h62 := bI_f (b := false) (rfl) h62
                  refine wa_iconst (v := 0) (by decide) ?_
                  refine wa_zreturn false (rfl) rfl rfl ?_
                  exact ⟨_, rfl, rfl, trivial⟩
                · replace h62 := bI_t (b := false) (rfl) h62
                  refine wa_aload_n (i := 0) rfl rfl ?_
                  refine wa_iload_n (i := 1) rfl rfl ?_
                  refine wa_iconst (v := 0) (by decide) ?_
                  refine wa_Vi (d9 := d - 1) [.int _, .int _] [] (sp_X1_byteOf G (d := d - 1) (by omega) σ _ _) (rfl) rfl rfl (zr (by omega)) mk_X1_byteOf ly_2 ml_1_33 (Nat.le_of_ble_eq_true rfl) (fun x64 s63 hs63 => ?_)
                  obtain ⟨zs63, -⟩ := pI hs63
                  subst zs63
                  refine wa_bipush (v := 8) (by decide) ?_
                  refine wa_ishl ?_
                  refine wa_top (fun v65 hv65 => ?_)
                  clear hv65
                  refine wa_aload_n (i := 0) rfl rfl ?_
                  refine wa_iload_n (i := 1) rfl rfl ?_
                  refine wa_iconst (v := 1) (by decide) ?_
                  refine wa_Vi (d9 := d - 1) [.int _, .int _] [.int v65] (sp_X1_byteOf G (d := d - 1) (by omega) σ _ _) (rfl) rfl rfl (zr (by omega)) mk_X1_byteOf ly_2 ml_1_33 (Nat.le_of_ble_eq_true rfl) (fun x67 s66 hs66 => ?_)
                  obtain ⟨zs66, -⟩ := pI hs66
                  subst zs66
                  refine wa_ior ?_
                  refine wa_top (fun v68 hv68 => ?_)
                  clear hv68
                  refine wa_iload_n (i := 1) rfl rfl ?_
                  refine wa_icmp_eq o_X1_isRight_106 (by decide) (fun h69 => ?_) (fun h69 => ?_)
                  · refine wa_iconst (v := 0) (by decide) ?_
                    refine wa_istoreD (lv' := [(5, .int 0), (4, .int (bI false)), (3, .int x7), (2, .int x5), (0, .ref 2), (1, .int a0)]) (by decide) rfl ?_
                    refine wa_iconst (v := 0) (by decide) ?_
                    refine wa_istoreD (lv' := [(6, .int 0), (5, .int 0), (4, .int (bI false)), (3, .int x7), (2, .int x5), (0, .ref 2), (1, .int a0)]) (by decide) rfl ?_
                    refine wa_pick [5, 6, 1, 0] rfl ?_
                    have hi71 : ∀ (n9_112 : Nat) (l5 : Int32) (l6 : Int32), ((0 ≤ l6.toInt) ∧ (True)) → (2147483647 - l6.toInt).toNat = n9_112 → WA G M_X1_isRight (ZM G M_X1_isRight d (fun r σ' => ∃ x : Bool, r = some (.int (bI x)) ∧ σ = σ' ∧ True)) B_X1_isRight_112 [(0, .ref 2), (1, .int a0), (5, .int l5), (6, .int l6)] [] σ := by
                      intro n9_112
                      induction n9_112 using Nat.strongRecOn with
                      | _ n9_112 ih70 =>
                        intro l5 l6  i9 m9_112
                        obtain ⟨jhi71_0, -⟩ := i9
                        have ul5 := Int32.toInt_lt l5
                        have wl5 := Int32.le_toInt l5
                        have ul6 := Int32.toInt_lt l6
                        have wl6 := Int32.le_toInt l6
                        refine wa_iload rfl ?_
                        refine wa_sipush (v := 252) (by decide) ?_
                        refine wa_icmp_ge o_X1_isRight_140 (by decide) (fun h72 => ?_) (fun h72 => ?_)
                        · refine wa_iconst (v := 0) (by decide) ?_
                          refine wa_istoreD (lv' := [(6, .int 0), (0, .ref 2), (1, .int a0), (5, .int l5)]) (by decide) rfl ?_
                          refine wa_sipush (v := 252) (by decide) ?_
                          refine wa_istoreD (lv' := [(7, .int 252), (6, .int 0), (0, .ref 2), (1, .int a0), (5, .int l5)]) (by decide) rfl ?_
                          refine wa_pick [2, 3, 4, 1, 0] rfl ?_
                          have hi74 : ∀ (n9_148 : Nat) (l6 : Int32) (l7 : Int32), ((0 ≤ l7.toInt) ∧ (True)) → (2147483647 - l7.toInt).toNat = n9_148 → WA G M_X1_isRight (ZM G M_X1_isRight d (fun r σ' => ∃ x : Bool, r = some (.int (bI x)) ∧ σ = σ' ∧ True)) B_X1_isRight_148 [(0, .ref 2), (1, .int a0), (5, .int l5), (6, .int l6), (7, .int l7)] [] σ := by
                            intro n9_148
                            induction n9_148 using Nat.strongRecOn with
                            | _ n9_148 ih73 =>
                              intro l6 l7  i9 m9_148
                              obtain ⟨jhi74_0, -⟩ := i9
                              have ul6 := Int32.toInt_lt l6
                              have wl6 := Int32.le_toInt l6
                              have ul7 := Int32.toInt_lt l7
                              have wl7 := Int32.le_toInt l7
                              refine wa_iload rfl ?_
                              refine wa_sipush (v := 256) (by decide) ?_
                              refine wa_icmp_ge o_X1_isRight_177 (by decide) (fun h75 => ?_) (fun h75 => ?_)
                              · refine wa_iload rfl ?_
                                refine wa_iload rfl ?_
                                refine wa_icmp_ne o_X1_isRight_188 (by decide) (fun h76 => ?_) (fun h76 => ?_)
                                · refine wa_iconst (v := 0) (by decide) ?_
                                  refine wa_zreturn false (rfl) rfl rfl ?_
                                  exact ⟨_, rfl, rfl, trivial⟩
                                · refine wa_iconst (v := 1) (by decide) ?_
                                  refine wa_goto o_X1_isRight_189 (by decide) ?_
                                  refine wa_zreturn true (rfl) rfl rfl ?_
                                  exact ⟨_, rfl, rfl, trivial⟩
                              · have mh75 := nle_mx h75
                                refine wa_iload rfl ?_
                                refine wa_bipush (v := 8) (by decide) ?_
                                refine wa_ishl ?_
                                refine wa_top (fun v77 hv77 => ?_)
                                clear hv77
                                refine wa_aload_n (i := 0) rfl rfl ?_
                                refine wa_iload_n (i := 1) rfl rfl ?_
                                refine wa_iload rfl ?_
                                refine wa_Vi (d9 := d - 1) [.int _, .int _] [.int v77] (sp_X1_byteOf G (d := d - 1) (by omega) σ _ _) (rfl) rfl rfl (zr (by omega)) mk_X1_byteOf ly_2 ml_1_33 (Nat.le_of_ble_eq_true rfl) (fun x79 s78 hs78 => ?_)
                                obtain ⟨zs78, -⟩ := pI hs78
                                subst zs78
                                refine wa_ior ?_
                                refine wa_top (fun v80 hv80 => ?_)
                                clear hv80
                                refine wa_istoreD (lv' := [(6, .int v80), (0, .ref 2), (1, .int a0), (5, .int l5), (7, .int l7)]) (by decide) rfl ?_
                                refine wa_iinc (v := (1)) (lv' := fun y81 => [(7, .int y81), (6, .int v80), (0, .ref 2), (1, .int a0), (5, .int l5)]) (by decide) rfl (by decide) (fun _ => rfl) (fun y81 hy81 => ?_)
                                have ty81 := i_addT hy81.symm
                                clear hy81
                                refine wa_goto o_X1_isRight_148 (by decide) ?_
                                refine wa_pick [2, 3, 4, 1, 0] rfl ?_
                                exact ih73 _ (by ((try simp only [vp_in_iff, Int32.lt_iff_toInt_lt, Int32.le_iff_toInt_le, ← Int32.toInt_inj, Int32.reduceToInt, n_1, n_2, n_8, Int32.toNatClampNeg, Int64.lt_iff_toInt_lt, Int64.le_iff_toInt_le, ← Int64.toInt_inj, Int64.reduceToInt, Int32.toInt_toInt64, lg_cmp_ge, lg_cmp_le, lg_cmp_gt, lg_cmp_lt, lg_cmp_eq, Bool.false_eq_true, Bool.true_eq_false, reduceCtorEq, false_iff, true_iff, iff_true, iff_false, and_true, true_and, and_false, false_and, reduceIte, ite_true, ite_false, eq_self] at *)) <;> omega) _ _ ⟨(by ((try simp only [vp_in_iff, Int32.lt_iff_toInt_lt, Int32.le_iff_toInt_le, ← Int32.toInt_inj, Int32.reduceToInt, n_1, n_2, n_8, Int32.toNatClampNeg, Int64.lt_iff_toInt_lt, Int64.le_iff_toInt_le, ← Int64.toInt_inj, Int64.reduceToInt, Int32.toInt_toInt64, lg_cmp_ge, lg_cmp_le, lg_cmp_gt, lg_cmp_lt, lg_cmp_eq, Bool.false_eq_true, Bool.true_eq_false, reduceCtorEq, false_iff, true_iff, iff_true, iff_false, and_true, true_and, and_false, false_and, reduceIte, ite_true, ite_false, eq_self] at *)) <;> omega), trivial⟩ rfl
                          exact hi74 _ _ _ ⟨(by ((try simp only [vp_in_iff, Int32.lt_iff_toInt_lt, Int32.le_iff_toInt_le, ← Int32.toInt_inj, Int32.reduceToInt, n_1, n_2, n_8, Int32.toNatClampNeg, Int64.lt_iff_toInt_lt, Int64.le_iff_toInt_le, ← Int64.toInt_inj, Int64.reduceToInt, Int32.toInt_toInt64, lg_cmp_ge, lg_cmp_le, lg_cmp_gt, lg_cmp_lt, lg_cmp_eq, Bool.false_eq_true, Bool.true_eq_false, reduceCtorEq, false_iff, true_iff, iff_true, iff_false, and_true, true_and, and_false, false_and, reduceIte, ite_true, ite_false, eq_self] at *)) <;> omega), trivial⟩ rfl
                        · have mh72 := nle_mx h72
                          refine wa_iload rfl ?_
                          refine wa_aload_n (i := 0) rfl rfl ?_
                          refine wa_iload_n (i := 1) rfl rfl ?_
                          refine wa_iload rfl ?_
                          refine wa_Vi (d9 := d - 1) [.int _, .int _] [.int l5] (sp_X1_byteOf G (d := d - 1) (by omega) σ _ _) (rfl) rfl rfl (zr (by omega)) mk_X1_byteOf ly_2 ml_1_33 (Nat.le_of_ble_eq_true rfl) (fun x83 s82 hs82 => ?_)
                          obtain ⟨zs82, -⟩ := pI hs82
                          subst zs82
                          refine wa_Si (d9 := d - 1) [.int _, .int _] [] (sp_X1_summed G (d := d - 1) (by omega) σ _ _) (rfl) rfl rfl (zr (by omega)) mk_X1_summed ml_1_74 (Nat.le_of_ble_eq_true rfl) (fun x85 s84 hs84 => ?_)
                          obtain ⟨zs84, -⟩ := pI hs84
                          subst zs84
                          refine wa_istoreD (lv' := [(5, .int x85), (0, .ref 2), (1, .int a0), (6, .int l6)]) (by decide) rfl ?_
                          refine wa_iinc (v := (1)) (lv' := fun y86 => [(6, .int y86), (5, .int x85), (0, .ref 2), (1, .int a0)]) (by decide) rfl (by decide) (fun _ => rfl) (fun y86 hy86 => ?_)
                          have ty86 := i_addT hy86.symm
                          clear hy86
                          refine wa_goto o_X1_isRight_112 (by decide) ?_
                          refine wa_pick [2, 3, 1, 0] rfl ?_
                          exact ih70 _ (by ((try simp only [vp_in_iff, Int32.lt_iff_toInt_lt, Int32.le_iff_toInt_le, ← Int32.toInt_inj, Int32.reduceToInt, n_1, n_2, n_8, Int32.toNatClampNeg, Int64.lt_iff_toInt_lt, Int64.le_iff_toInt_le, ← Int64.toInt_inj, Int64.reduceToInt, Int32.toInt_toInt64, lg_cmp_ge, lg_cmp_le, lg_cmp_gt, lg_cmp_lt, lg_cmp_eq, Bool.false_eq_true, Bool.true_eq_false, reduceCtorEq, false_iff, true_iff, iff_true, iff_false, and_true, true_and, and_false, false_and, reduceIte, ite_true, ite_false, eq_self] at *)) <;> omega) _ _ ⟨(by ((try simp only [vp_in_iff, Int32.lt_iff_toInt_lt, Int32.le_iff_toInt_le, ← Int32.toInt_inj, Int32.reduceToInt, n_1, n_2, n_8, Int32.toNatClampNeg, Int64.lt_iff_toInt_lt, Int64.le_iff_toInt_le, ← Int64.toInt_inj, Int64.reduceToInt, Int32.toInt_toInt64, lg_cmp_ge, lg_cmp_le, lg_cmp_gt, lg_cmp_lt, lg_cmp_eq, Bool.false_eq_true, Bool.true_eq_false, reduceCtorEq, false_iff, true_iff, iff_true, iff_false, and_true, true_and, and_false, false_and, reduceIte, ite_true, ite_false, eq_self] at *)) <;> omega), trivial⟩ rfl
                    exact hi71 _ _ _ ⟨(by ((try simp only [vp_in_iff, Int32.lt_iff_toInt_lt, Int32.le_iff_toInt_le, ← Int32.toInt_inj, Int32.reduceToInt, n_1, n_2, n_8, Int32.toNatClampNeg, Int64.lt_iff_toInt_lt, Int64.le_iff_toInt_le, ← Int64.toInt_inj, Int64.reduceToInt, Int32.toInt_toInt64, lg_cmp_ge, lg_cmp_le, lg_cmp_gt, lg_cmp_lt, lg_cmp_eq, Bool.false_eq_true, Bool.true_eq_false, reduceCtorEq, false_iff, true_iff, iff_true, iff_false, and_true, true_and, and_false, false_and, reduceIte, ite_true, ite_false, eq_self] at *)) <;> omega), trivial⟩ rfl
                  · refine wa_iconst (v := 0) (by decide) ?_
                    refine wa_zreturn false (rfl) rfl rfl ?_
                    exact ⟨_, rfl, rfl, trivial⟩
              · refine wa_iconst (v := 1) (by decide) ?_
                refine wa_goto o_X1_isRight_77 (by decide) ?_
                refine wa_istoreD (lv' := [(4, .int (bI true)), (3, .int x7), (2, .int x5), (0, .ref 2), (1, .int a0)]) (by decide) rfl ?_
                refine wa_iload rfl ?_
                refine wa_if_eq o_X1_isRight_104 (by decide) (fun h87 => ?_) (fun h87 => ?_)
                · replace h87 := bI_f (b := true) (rfl) h87
                  refine wa_iconst (v := 0) (by decide) ?_
                  refine wa_zreturn false (rfl) rfl rfl ?_
                  exact ⟨_, rfl, rfl, trivial⟩
                · replace h87 := bI_t (b := true) (rfl) h87
                  refine wa_aload_n (i := 0) rfl rfl ?_
                  refine wa_iload_n (i := 1) rfl rfl ?_
                  refine wa_iconst (v := 0) (by decide) ?_
                  refine wa_Vi (d9 := d - 1) [.int _, .int _] [] (sp_X1_byteOf G (d := d - 1) (by omega) σ _ _) (rfl) rfl rfl (zr (by omega)) mk_X1_byteOf ly_2 ml_1_33 (Nat.le_of_ble_eq_true rfl) (fun x89 s88 hs88 => ?_)
                  obtain ⟨zs88, -⟩ := pI hs88
                  subst zs88
                  refine wa_bipush (v := 8) (by decide) ?_
                  refine wa_ishl ?_
                  refine wa_top (fun v90 hv90 => ?_)
                  clear hv90
                  refine wa_aload_n (i := 0) rfl rfl ?_
                  refine wa_iload_n (i := 1) rfl rfl ?_
                  refine wa_iconst (v := 1) (by decide) ?_
                  refine wa_Vi (d9 := d - 1) [.int _, .int _] [.int v90] (sp_X1_byteOf G (d := d - 1) (by omega) σ _ _) (rfl) rfl rfl (zr (by omega)) mk_X1_byteOf ly_2 ml_1_33 (Nat.le_of_ble_eq_true rfl) (fun x92 s91 hs91 => ?_)
                  obtain ⟨zs91, -⟩ := pI hs91
                  subst zs91
                  refine wa_ior ?_
                  refine wa_top (fun v93 hv93 => ?_)
                  clear hv93
                  refine wa_iload_n (i := 1) rfl rfl ?_
                  refine wa_icmp_eq o_X1_isRight_106 (by decide) (fun h94 => ?_) (fun h94 => ?_)
                  · refine wa_iconst (v := 0) (by decide) ?_
                    refine wa_istoreD (lv' := [(5, .int 0), (4, .int (bI true)), (3, .int x7), (2, .int x5), (0, .ref 2), (1, .int a0)]) (by decide) rfl ?_
                    refine wa_iconst (v := 0) (by decide) ?_
                    refine wa_istoreD (lv' := [(6, .int 0), (5, .int 0), (4, .int (bI true)), (3, .int x7), (2, .int x5), (0, .ref 2), (1, .int a0)]) (by decide) rfl ?_
                    refine wa_pick [5, 6, 1, 0] rfl ?_
                    have hi96 : ∀ (n9_112 : Nat) (l5 : Int32) (l6 : Int32), ((0 ≤ l6.toInt) ∧ (True)) → (2147483647 - l6.toInt).toNat = n9_112 → WA G M_X1_isRight (ZM G M_X1_isRight d (fun r σ' => ∃ x : Bool, r = some (.int (bI x)) ∧ σ = σ' ∧ True)) B_X1_isRight_112 [(0, .ref 2), (1, .int a0), (5, .int l5), (6, .int l6)] [] σ := by
                      intro n9_112
                      induction n9_112 using Nat.strongRecOn with
                      | _ n9_112 ih95 =>
                        intro l5 l6  i9 m9_112
                        obtain ⟨jhi96_0, -⟩ := i9
                        have ul5 := Int32.toInt_lt l5
                        have wl5 := Int32.le_toInt l5
                        have ul6 := Int32.toInt_lt l6
                        have wl6 := Int32.le_toInt l6
                        refine wa_iload rfl ?_
                        refine wa_sipush (v := 252) (by decide) ?_
                        refine wa_icmp_ge o_X1_isRight_140 (by decide) (fun h97 => ?_) (fun h97 => ?_)
                        · refine wa_iconst (v := 0) (by decide) ?_
                          refine wa_istoreD (lv' := [(6, .int 0), (0, .ref 2), (1, .int a0), (5, .int l5)]) (by decide) rfl ?_
                          refine wa_sipush (v := 252) (by decide) ?_
                          refine wa_istoreD (lv' := [(7, .int 252), (6, .int 0), (0, .ref 2), (1, .int a0), (5, .int l5)]) (by decide) rfl ?_
                          refine wa_pick [2, 3, 4, 1, 0] rfl ?_
                          have hi99 : ∀ (n9_148 : Nat) (l6 : Int32) (l7 : Int32), ((0 ≤ l7.toInt) ∧ (True)) → (2147483647 - l7.toInt).toNat = n9_148 → WA G M_X1_isRight (ZM G M_X1_isRight d (fun r σ' => ∃ x : Bool, r = some (.int (bI x)) ∧ σ = σ' ∧ True)) B_X1_isRight_148 [(0, .ref 2), (1, .int a0), (5, .int l5), (6, .int l6), (7, .int l7)] [] σ := by
                            intro n9_148
                            induction n9_148 using Nat.strongRecOn with
                            | _ n9_148 ih98 =>
                              intro l6 l7  i9 m9_148
                              obtain ⟨jhi99_0, -⟩ := i9
                              have ul6 := Int32.toInt_lt l6
                              have wl6 := Int32.le_toInt l6
                              have ul7 := Int32.toInt_lt l7
                              have wl7 := Int32.le_toInt l7
                              refine wa_iload rfl ?_
                              refine wa_sipush (v := 256) (by decide) ?_
                              refine wa_icmp_ge o_X1_isRight_177 (by decide) (fun h100 => ?_) (fun h100 => ?_)
                              · refine wa_iload rfl ?_
                                refine wa_iload rfl ?_
                                refine wa_icmp_ne o_X1_isRight_188 (by decide) (fun h101 => ?_) (fun h101 => ?_)
                                · refine wa_iconst (v := 0) (by decide) ?_
                                  refine wa_zreturn false (rfl) rfl rfl ?_
                                  exact ⟨_, rfl, rfl, trivial⟩
                                · refine wa_iconst (v := 1) (by decide) ?_
                                  refine wa_goto o_X1_isRight_189 (by decide) ?_
                                  refine wa_zreturn true (rfl) rfl rfl ?_
                                  exact ⟨_, rfl, rfl, trivial⟩
                              · have mh100 := nle_mx h100
                                refine wa_iload rfl ?_
                                refine wa_bipush (v := 8) (by decide) ?_
                                refine wa_ishl ?_
                                refine wa_top (fun v102 hv102 => ?_)
                                clear hv102
                                refine wa_aload_n (i := 0) rfl rfl ?_
                                refine wa_iload_n (i := 1) rfl rfl ?_
                                refine wa_iload rfl ?_
                                refine wa_Vi (d9 := d - 1) [.int _, .int _] [.int v102] (sp_X1_byteOf G (d := d - 1) (by omega) σ _ _) (rfl) rfl rfl (zr (by omega)) mk_X1_byteOf ly_2 ml_1_33 (Nat.le_of_ble_eq_true rfl) (fun x104 s103 hs103 => ?_)
                                obtain ⟨zs103, -⟩ := pI hs103
                                subst zs103
                                refine wa_ior ?_
                                refine wa_top (fun v105 hv105 => ?_)
                                clear hv105
                                refine wa_istoreD (lv' := [(6, .int v105), (0, .ref 2), (1, .int a0), (5, .int l5), (7, .int l7)]) (by decide) rfl ?_
                                refine wa_iinc (v := (1)) (lv' := fun y106 => [(7, .int y106), (6, .int v105), (0, .ref 2), (1, .int a0), (5, .int l5)]) (by decide) rfl (by decide) (fun _ => rfl) (fun y106 hy106 => ?_)
                                have ty106 := i_addT hy106.symm
                                clear hy106
                                refine wa_goto o_X1_isRight_148 (by decide) ?_
                                refine wa_pick [2, 3, 4, 1, 0] rfl ?_
                                exact ih98 _ (by ((try simp only [vp_in_iff, Int32.lt_iff_toInt_lt, Int32.le_iff_toInt_le, ← Int32.toInt_inj, Int32.reduceToInt, n_1, n_2, n_8, Int32.toNatClampNeg, Int64.lt_iff_toInt_lt, Int64.le_iff_toInt_le, ← Int64.toInt_inj, Int64.reduceToInt, Int32.toInt_toInt64, lg_cmp_ge, lg_cmp_le, lg_cmp_gt, lg_cmp_lt, lg_cmp_eq, Bool.false_eq_true, Bool.true_eq_false, reduceCtorEq, false_iff, true_iff, iff_true, iff_false, and_true, true_and, and_false, false_and, reduceIte, ite_true, ite_false, eq_self] at *)) <;> omega) _ _ ⟨(by ((try simp only [vp_in_iff, Int32.lt_iff_toInt_lt, Int32.le_iff_toInt_le, ← Int32.toInt_inj, Int32.reduceToInt, n_1, n_2, n_8, Int32.toNatClampNeg, Int64.lt_iff_toInt_lt, Int64.le_iff_toInt_le, ← Int64.toInt_inj, Int64.reduceToInt, Int32.toInt_toInt64, lg_cmp_ge, lg_cmp_le, lg_cmp_gt, lg_cmp_lt, lg_cmp_eq, Bool.false_eq_true, Bool.true_eq_false, reduceCtorEq, false_iff, true_iff, iff_true, iff_false, and_true, true_and, and_false, false_and, reduceIte, ite_true, ite_false, eq_self] at *)) <;> omega), trivial⟩ rfl
                          exact hi99 _ _ _ ⟨(by ((try simp only [vp_in_iff, Int32.lt_iff_toInt_lt, Int32.le_iff_toInt_le, ← Int32.toInt_inj, Int32.reduceToInt, n_1, n_2, n_8, Int32.toNatClampNeg, Int64.lt_iff_toInt_lt, Int64.le_iff_toInt_le, ← Int64.toInt_inj, Int64.reduceToInt, Int32.toInt_toInt64, lg_cmp_ge, lg_cmp_le, lg_cmp_gt, lg_cmp_lt, lg_cmp_eq, Bool.false_eq_true, Bool.true_eq_false, reduceCtorEq, false_iff, true_iff, iff_true, iff_false, and_true, true_and, and_false, false_and, reduceIte, ite_true, ite_false, eq_self] at *)) <;> omega), trivial⟩ rfl
                        · have mh97 := nle_mx h97
                          refine wa_iload rfl ?_
                          refine wa_aload_n (i := 0) rfl rfl ?_
                          refine wa_iload_n (i := 1) rfl rfl ?_
                          refine wa_iload rfl ?_
                          refine wa_Vi (d9 := d - 1) [.int _, .int _] [.int l5] (sp_X1_byteOf G (d := d - 1) (by omega) σ _ _) (rfl) rfl rfl (zr (by omega)) mk_X1_byteOf ly_2 ml_1_33 (Nat.le_of_ble_eq_true rfl) (fun x108 s107 hs107 => ?_)
                          obtain ⟨zs107, -⟩ := pI hs107
                          subst zs107
                          refine wa_Si (d9 := d - 1) [.int _, .int _] [] (sp_X1_summed G (d := d - 1) (by omega) σ _ _) (rfl) rfl rfl (zr (by omega)) mk_X1_summed ml_1_74 (Nat.le_of_ble_eq_true rfl) (fun x110 s109 hs109 => ?_)
                          obtain ⟨zs109, -⟩ := pI hs109
                          subst zs109
                          refine wa_istoreD (lv' := [(5, .int x110), (0, .ref 2), (1, .int a0), (6, .int l6)]) (by decide) rfl ?_
                          refine wa_iinc (v := (1)) (lv' := fun y111 => [(6, .int y111), (5, .int x110), (0, .ref 2), (1, .int a0)]) (by decide) rfl (by decide) (fun _ => rfl) (fun y111 hy111 => ?_)
                          have ty111 := i_addT hy111.symm
                          clear hy111
                          refine wa_goto o_X1_isRight_112 (by decide) ?_
                          refine wa_pick [2, 3, 1, 0] rfl ?_
                          exact ih95 _ (by ((try simp only [vp_in_iff, Int32.lt_iff_toInt_lt, Int32.le_iff_toInt_le, ← Int32.toInt_inj, Int32.reduceToInt, n_1, n_2, n_8, Int32.toNatClampNeg, Int64.lt_iff_toInt_lt, Int64.le_iff_toInt_le, ← Int64.toInt_inj, Int64.reduceToInt, Int32.toInt_toInt64, lg_cmp_ge, lg_cmp_le, lg_cmp_gt, lg_cmp_lt, lg_cmp_eq, Bool.false_eq_true, Bool.true_eq_false, reduceCtorEq, false_iff, true_iff, iff_true, iff_false, and_true, true_and, and_false, false_and, reduceIte, ite_true, ite_false, eq_self] at *)) <;> omega) _ _ ⟨(by ((try simp only [vp_in_iff, Int32.lt_iff_toInt_lt, Int32.le_iff_toInt_le, ← Int32.toInt_inj, Int32.reduceToInt, n_1, n_2, n_8, Int32.toNatClampNeg, Int64.lt_iff_toInt_lt, Int64.le_iff_toInt_le, ← Int64.toInt_inj, Int64.reduceToInt, Int32.toInt_toInt64, lg_cmp_ge, lg_cmp_le, lg_cmp_gt, lg_cmp_lt, lg_cmp_eq, Bool.false_eq_true, Bool.true_eq_false, reduceCtorEq, false_iff, true_iff, iff_true, iff_false, and_true, true_and, and_false, false_and, reduceIte, ite_true, ite_false, eq_self] at *)) <;> omega), trivial⟩ rfl
                    exact hi96 _ _ _ ⟨(by ((try simp only [vp_in_iff, Int32.lt_iff_toInt_lt, Int32.le_iff_toInt_le, ← Int32.toInt_inj, Int32.reduceToInt, n_1, n_2, n_8, Int32.toNatClampNeg, Int64.lt_iff_toInt_lt, Int64.le_iff_toInt_le, ← Int64.toInt_inj, Int64.reduceToInt, Int32.toInt_toInt64, lg_cmp_ge, lg_cmp_le, lg_cmp_gt, lg_cmp_lt, lg_cmp_eq, Bool.false_eq_true, Bool.true_eq_false, reduceCtorEq, false_iff, true_iff, iff_true, iff_false, and_true, true_and, and_false, false_and, reduceIte, ite_true, ite_false, eq_self] at *)) <;> omega), trivial⟩ rfl
                  · refine wa_iconst (v := 0) (by decide) ?_
                    refine wa_zreturn false (rfl) rfl rfl ?_
                    exact ⟨_, rfl, rfl, trivial⟩
        · refine wa_iload_n (i := 3) rfl rfl ?_
          refine wa_sipush (v := 248) (by decide) ?_
          refine wa_icmp_ne o_X1_isRight_51 (by decide) (fun h112 => ?_) (fun h112 => ?_)
          · refine wa_iconst (v := 0) (by decide) ?_
            refine wa_goto o_X1_isRight_77 (by decide) ?_
            refine wa_istoreD (lv' := [(4, .int (bI false)), (3, .int x7), (2, .int x5), (0, .ref 2), (1, .int a0)]) (by decide) rfl ?_
            refine wa_iload rfl ?_
            refine wa_if_eq o_X1_isRight_104 (by decide) (fun h113 => ?_) (fun h113 => ?_)
            · replace h113 := bI_f (b := false) (rfl) h113
              refine wa_iconst (v := 0) (by decide) ?_
              refine wa_zreturn false (rfl) rfl rfl ?_
              exact ⟨_, rfl, rfl, trivial⟩
            · replace h113 := bI_t (b := false) (rfl) h113
              refine wa_aload_n (i := 0) rfl rfl ?_
              refine wa_iload_n (i := 1) rfl rfl ?_
              refine wa_iconst (v := 0) (by decide) ?_
              refine wa_Vi (d9 := d - 1) [.int _, .int _] [] (sp_X1_byteOf G (d := d - 1) (by omega) σ _ _) (rfl) rfl rfl (zr (by omega)) mk_X1_byteOf ly_2 ml_1_33 (Nat.le_of_ble_eq_true rfl) (fun x115 s114 hs114 => ?_)
              obtain ⟨zs114, -⟩ := pI hs114
              subst zs114
              refine wa_bipush (v := 8) (by decide) ?_
              refine wa_ishl ?_
              refine wa_top (fun v116 hv116 => ?_)
              clear hv116
              refine wa_aload_n (i := 0) rfl rfl ?_
              refine wa_iload_n (i := 1) rfl rfl ?_
              refine wa_iconst (v := 1) (by decide) ?_
              refine wa_Vi (d9 := d - 1) [.int _, .int _] [.int v116] (sp_X1_byteOf G (d := d - 1) (by omega) σ _ _) (rfl) rfl rfl (zr (by omega)) mk_X1_byteOf ly_2 ml_1_33 (Nat.le_of_ble_eq_true rfl) (fun x118 s117 hs117 => ?_)
              obtain ⟨zs117, -⟩ := pI hs117
              subst zs117
              refine wa_ior ?_
              refine wa_top (fun v119 hv119 => ?_)
              clear hv119
              refine wa_iload_n (i := 1) rfl rfl ?_
              refine wa_icmp_eq o_X1_isRight_106 (by decide) (fun h120 => ?_) (fun h120 => ?_)
              · refine wa_iconst (v := 0) (by decide) ?_
                refine wa_istoreD (lv' := [(5, .int 0), (4, .int (bI false)), (3, .int x7), (2, .int x5), (0, .ref 2), (1, .int a0)]) (by decide) rfl ?_
                refine wa_iconst (v := 0) (by decide) ?_
                refine wa_istoreD (lv' := [(6, .int 0), (5, .int 0), (4, .int (bI false)), (3, .int x7), (2, .int x5), (0, .ref 2), (1, .int a0)]) (by decide) rfl ?_
                refine wa_pick [5, 6, 1, 0] rfl ?_
                have hi122 : ∀ (n9_112 : Nat) (l5 : Int32) (l6 : Int32), ((0 ≤ l6.toInt) ∧ (True)) → (2147483647 - l6.toInt).toNat = n9_112 → WA G M_X1_isRight (ZM G M_X1_isRight d (fun r σ' => ∃ x : Bool, r = some (.int (bI x)) ∧ σ = σ' ∧ True)) B_X1_isRight_112 [(0, .ref 2), (1, .int a0), (5, .int l5), (6, .int l6)] [] σ := by
                  intro n9_112
                  induction n9_112 using Nat.strongRecOn with
                  | _ n9_112 ih121 =>
                    intro l5 l6  i9 m9_112
                    obtain ⟨jhi122_0, -⟩ := i9
                    have ul5 := Int32.toInt_lt l5
                    have wl5 := Int32.le_toInt l5
                    have ul6 := Int32.toInt_lt l6
                    have wl6 := Int32.le_toInt l6
                    refine wa_iload rfl ?_
                    refine wa_sipush (v := 252) (by decide) ?_
                    refine wa_icmp_ge o_X1_isRight_140 (by decide) (fun h123 => ?_) (fun h123 => ?_)
                    · refine wa_iconst (v := 0) (by decide) ?_
                      refine wa_istoreD (lv' := [(6, .int 0), (0, .ref 2), (1, .int a0), (5, .int l5)]) (by decide) rfl ?_
                      refine wa_sipush (v := 252) (by decide) ?_
                      refine wa_istoreD (lv' := [(7, .int 252), (6, .int 0), (0, .ref 2), (1, .int a0), (5, .int l5)]) (by decide) rfl ?_
                      refine wa_pick [2, 3, 4, 1, 0] rfl ?_
                      have hi125 : ∀ (n9_148 : Nat) (l6 : Int32) (l7 : Int32), ((0 ≤ l7.toInt) ∧ (True)) → (2147483647 - l7.toInt).toNat = n9_148 → WA G M_X1_isRight (ZM G M_X1_isRight d (fun r σ' => ∃ x : Bool, r = some (.int (bI x)) ∧ σ = σ' ∧ True)) B_X1_isRight_148 [(0, .ref 2), (1, .int a0), (5, .int l5), (6, .int l6), (7, .int l7)] [] σ := by
                        intro n9_148
                        induction n9_148 using Nat.strongRecOn with
                        | _ n9_148 ih124 =>
                          intro l6 l7  i9 m9_148
                          obtain ⟨jhi125_0, -⟩ := i9
                          have ul6 := Int32.toInt_lt l6
                          have wl6 := Int32.le_toInt l6
                          have ul7 := Int32.toInt_lt l7
                          have wl7 := Int32.le_toInt l7
                          refine wa_iload rfl ?_
                          refine wa_sipush (v := 256) (by decide) ?_
                          refine wa_icmp_ge o_X1_isRight_177 (by decide) (fun h126 => ?_) (fun h126 => ?_)
                          · refine wa_iload rfl ?_
                            refine wa_iload rfl ?_
                            refine wa_icmp_ne o_X1_isRight_188 (by decide) (fun h127 => ?_) (fun h127 => ?_)
                            · refine wa_iconst (v := 0) (by decide) ?_
                              refine wa_zreturn false (rfl) rfl rfl ?_
                              exact ⟨_, rfl, rfl, trivial⟩
                            · refine wa_iconst (v := 1) (by decide) ?_
                              refine wa_goto o_X1_isRight_189 (by decide) ?_
                              refine wa_zreturn true (rfl) rfl rfl ?_
                              exact ⟨_, rfl, rfl, trivial⟩
                          · have mh126 := nle_mx h126
                            refine wa_iload rfl ?_
                            refine wa_bipush (v := 8) (by decide) ?_
                            refine wa_ishl ?_
                            refine wa_top (fun v128 hv128 => ?_)
                            clear hv128
                            refine wa_aload_n (i := 0) rfl rfl ?_
                            refine wa_iload_n (i := 1) rfl rfl ?_
                            refine wa_iload rfl ?_
                            refine wa_Vi (d9 := d - 1) [.int _, .int _] [.int v128] (sp_X1_byteOf G (d := d - 1) (by omega) σ _ _) (rfl) rfl rfl (zr (by omega)) mk_X1_byteOf ly_2 ml_1_33 (Nat.le_of_ble_eq_true rfl) (fun x130 s129 hs129 => ?_)
                            obtain ⟨zs129, -⟩ := pI hs129
                            subst zs129
                            refine wa_ior ?_
                            refine wa_top (fun v131 hv131 => ?_)
                            clear hv131
                            refine wa_istoreD (lv' := [(6, .int v131), (0, .ref 2), (1, .int a0), (5, .int l5), (7, .int l7)]) (by decide) rfl ?_
                            refine wa_iinc (v := (1)) (lv' := fun y132 => [(7, .int y132), (6, .int v131), (0, .ref 2), (1, .int a0), (5, .int l5)]) (by decide) rfl (by decide) (fun _ => rfl) (fun y132 hy132 => ?_)
                            have ty132 := i_addT hy132.symm
                            clear hy132
                            refine wa_goto o_X1_isRight_148 (by decide) ?_
                            refine wa_pick [2, 3, 4, 1, 0] rfl ?_
                            exact ih124 _ (by ((try simp only [vp_in_iff, Int32.lt_iff_toInt_lt, Int32.le_iff_toInt_le, ← Int32.toInt_inj, Int32.reduceToInt, n_1, n_2, n_8, Int32.toNatClampNeg, Int64.lt_iff_toInt_lt, Int64.le_iff_toInt_le, ← Int64.toInt_inj, Int64.reduceToInt, Int32.toInt_toInt64, lg_cmp_ge, lg_cmp_le, lg_cmp_gt, lg_cmp_lt, lg_cmp_eq, Bool.false_eq_true, Bool.true_eq_false, reduceCtorEq, false_iff, true_iff, iff_true, iff_false, and_true, true_and, and_false, false_and, reduceIte, ite_true, ite_false, eq_self] at *)) <;> omega) _ _ ⟨(by ((try simp only [vp_in_iff, Int32.lt_iff_toInt_lt, Int32.le_iff_toInt_le, ← Int32.toInt_inj, Int32.reduceToInt, n_1, n_2, n_8, Int32.toNatClampNeg, Int64.lt_iff_toInt_lt, Int64.le_iff_toInt_le, ← Int64.toInt_inj, Int64.reduceToInt, Int32.toInt_toInt64, lg_cmp_ge, lg_cmp_le, lg_cmp_gt, lg_cmp_lt, lg_cmp_eq, Bool.false_eq_true, Bool.true_eq_false, reduceCtorEq, false_iff, true_iff, iff_true, iff_false, and_true, true_and, and_false, false_and, reduceIte, ite_true, ite_false, eq_self] at *)) <;> omega), trivial⟩ rfl
                      exact hi125 _ _ _ ⟨(by ((try simp only [vp_in_iff, Int32.lt_iff_toInt_lt, Int32.le_iff_toInt_le, ← Int32.toInt_inj, Int32.reduceToInt, n_1, n_2, n_8, Int32.toNatClampNeg, Int64.lt_iff_toInt_lt, Int64.le_iff_toInt_le, ← Int64.toInt_inj, Int64.reduceToInt, Int32.toInt_toInt64, lg_cmp_ge, lg_cmp_le, lg_cmp_gt, lg_cmp_lt, lg_cmp_eq, Bool.false_eq_true, Bool.true_eq_false, reduceCtorEq, false_iff, true_iff, iff_true, iff_false, and_true, true_and, and_false, false_and, reduceIte, ite_true, ite_false, eq_self] at *)) <;> omega), trivial⟩ rfl
                    · have mh123 := nle_mx h123
                      refine wa_iload rfl ?_
                      refine wa_aload_n (i := 0) rfl rfl ?_
                      refine wa_iload_n (i := 1) rfl rfl ?_
                      refine wa_iload rfl ?_
                      refine wa_Vi (d9 := d - 1) [.int _, .int _] [.int l5] (sp_X1_byteOf G (d := d - 1) (by omega) σ _ _) (rfl) rfl rfl (zr (by omega)) mk_X1_byteOf ly_2 ml_1_33 (Nat.le_of_ble_eq_true rfl) (fun x134 s133 hs133 => ?_)
                      obtain ⟨zs133, -⟩ := pI hs133
                      subst zs133
                      refine wa_Si (d9 := d - 1) [.int _, .int _] [] (sp_X1_summed G (d := d - 1) (by omega) σ _ _) (rfl) rfl rfl (zr (by omega)) mk_X1_summed ml_1_74 (Nat.le_of_ble_eq_true rfl) (fun x136 s135 hs135 => ?_)
                      obtain ⟨zs135, -⟩ := pI hs135
                      subst zs135
                      refine wa_istoreD (lv' := [(5, .int x136), (0, .ref 2), (1, .int a0), (6, .int l6)]) (by decide) rfl ?_
                      refine wa_iinc (v := (1)) (lv' := fun y137 => [(6, .int y137), (5, .int x136), (0, .ref 2), (1, .int a0)]) (by decide) rfl (by decide) (fun _ => rfl) (fun y137 hy137 => ?_)
                      have ty137 := i_addT hy137.symm
                      clear hy137
                      refine wa_goto o_X1_isRight_112 (by decide) ?_
                      refine wa_pick [2, 3, 1, 0] rfl ?_
                      exact ih121 _ (by ((try simp only [vp_in_iff, Int32.lt_iff_toInt_lt, Int32.le_iff_toInt_le, ← Int32.toInt_inj, Int32.reduceToInt, n_1, n_2, n_8, Int32.toNatClampNeg, Int64.lt_iff_toInt_lt, Int64.le_iff_toInt_le, ← Int64.toInt_inj, Int64.reduceToInt, Int32.toInt_toInt64, lg_cmp_ge, lg_cmp_le, lg_cmp_gt, lg_cmp_lt, lg_cmp_eq, Bool.false_eq_true, Bool.true_eq_false, reduceCtorEq, false_iff, true_iff, iff_true, iff_false, and_true, true_and, and_false, false_and, reduceIte, ite_true, ite_false, eq_self] at *)) <;> omega) _ _ ⟨(by ((try simp only [vp_in_iff, Int32.lt_iff_toInt_lt, Int32.le_iff_toInt_le, ← Int32.toInt_inj, Int32.reduceToInt, n_1, n_2, n_8, Int32.toNatClampNeg, Int64.lt_iff_toInt_lt, Int64.le_iff_toInt_le, ← Int64.toInt_inj, Int64.reduceToInt, Int32.toInt_toInt64, lg_cmp_ge, lg_cmp_le, lg_cmp_gt, lg_cmp_lt, lg_cmp_eq, Bool.false_eq_true, Bool.true_eq_false, reduceCtorEq, false_iff, true_iff, iff_true, iff_false, and_true, true_and, and_false, false_and, reduceIte, ite_true, ite_false, eq_self] at *)) <;> omega), trivial⟩ rfl
                exact hi122 _ _ _ ⟨(by ((try simp only [vp_in_iff, Int32.lt_iff_toInt_lt, Int32.le_iff_toInt_le, ← Int32.toInt_inj, Int32.reduceToInt, n_1, n_2, n_8, Int32.toNatClampNeg, Int64.lt_iff_toInt_lt, Int64.le_iff_toInt_le, ← Int64.toInt_inj, Int64.reduceToInt, Int32.toInt_toInt64, lg_cmp_ge, lg_cmp_le, lg_cmp_gt, lg_cmp_lt, lg_cmp_eq, Bool.false_eq_true, Bool.true_eq_false, reduceCtorEq, false_iff, true_iff, iff_true, iff_false, and_true, true_and, and_false, false_and, reduceIte, ite_true, ite_false, eq_self] at *)) <;> omega), trivial⟩ rfl
              · refine wa_iconst (v := 0) (by decide) ?_
                refine wa_zreturn false (rfl) rfl rfl ?_
                exact ⟨_, rfl, rfl, trivial⟩
          · refine wa_iconst (v := 1) (by decide) ?_
            refine wa_goto o_X1_isRight_77 (by decide) ?_
            refine wa_istoreD (lv' := [(4, .int (bI true)), (3, .int x7), (2, .int x5), (0, .ref 2), (1, .int a0)]) (by decide) rfl ?_
            refine wa_iload rfl ?_
            refine wa_if_eq o_X1_isRight_104 (by decide) (fun h138 => ?_) (fun h138 => ?_)
            · replace h138 := bI_f (b := true) (rfl) h138
              refine wa_iconst (v := 0) (by decide) ?_
              refine wa_zreturn false (rfl) rfl rfl ?_
              exact ⟨_, rfl, rfl, trivial⟩
            · replace h138 := bI_t (b := true) (rfl) h138
              refine wa_aload_n (i := 0) rfl rfl ?_
              refine wa_iload_n (i := 1) rfl rfl ?_
              refine wa_iconst (v := 0) (by decide) ?_
              refine wa_Vi (d9 := d - 1) [.int _, .int _] [] (sp_X1_byteOf G (d := d - 1) (by omega) σ _ _) (rfl) rfl rfl (zr (by omega)) mk_X1_byteOf ly_2 ml_1_33 (Nat.le_of_ble_eq_true rfl) (fun x140 s139 hs139 => ?_)
              obtain ⟨zs139, -⟩ := pI hs139
              subst zs139
              refine wa_bipush (v := 8) (by decide) ?_
              refine wa_ishl ?_
              refine wa_top (fun v141 hv141 => ?_)
              clear hv141
              refine wa_aload_n (i := 0) rfl rfl ?_
              refine wa_iload_n (i := 1) rfl rfl ?_
              refine wa_iconst (v := 1) (by decide) ?_
              refine wa_Vi (d9 := d - 1) [.int _, .int _] [.int v141] (sp_X1_byteOf G (d := d - 1) (by omega) σ _ _) (rfl) rfl rfl (zr (by omega)) mk_X1_byteOf ly_2 ml_1_33 (Nat.le_of_ble_eq_true rfl) (fun x143 s142 hs142 => ?_)
              obtain ⟨zs142, -⟩ := pI hs142
              subst zs142
              refine wa_ior ?_
              refine wa_top (fun v144 hv144 => ?_)
              clear hv144
              refine wa_iload_n (i := 1) rfl rfl ?_
              refine wa_icmp_eq o_X1_isRight_106 (by decide) (fun h145 => ?_) (fun h145 => ?_)
              · refine wa_iconst (v := 0) (by decide) ?_
                refine wa_istoreD (lv' := [(5, .int 0), (4, .int (bI true)), (3, .int x7), (2, .int x5), (0, .ref 2), (1, .int a0)]) (by decide) rfl ?_
                refine wa_iconst (v := 0) (by decide) ?_
                refine wa_istoreD (lv' := [(6, .int 0), (5, .int 0), (4, .int (bI true)), (3, .int x7), (2, .int x5), (0, .ref 2), (1, .int a0)]) (by decide) rfl ?_
                refine wa_pick [5, 6, 1, 0] rfl ?_
                have hi147 : ∀ (n9_112 : Nat) (l5 : Int32) (l6 : Int32), ((0 ≤ l6.toInt) ∧ (True)) → (2147483647 - l6.toInt).toNat = n9_112 → WA G M_X1_isRight (ZM G M_X1_isRight d (fun r σ' => ∃ x : Bool, r = some (.int (bI x)) ∧ σ = σ' ∧ True)) B_X1_isRight_112 [(0, .ref 2), (1, .int a0), (5, .int l5), (6, .int l6)] [] σ := by
                  intro n9_112
                  induction n9_112 using Nat.strongRecOn with
                  | _ n9_112 ih146 =>
                    intro l5 l6  i9 m9_112
                    obtain ⟨jhi147_0, -⟩ := i9
                    have ul5 := Int32.toInt_lt l5
                    have wl5 := Int32.le_toInt l5
                    have ul6 := Int32.toInt_lt l6
                    have wl6 := Int32.le_toInt l6
                    refine wa_iload rfl ?_
                    refine wa_sipush (v := 252) (by decide) ?_
                    refine wa_icmp_ge o_X1_isRight_140 (by decide) (fun h148 => ?_) (fun h148 => ?_)
                    · refine wa_iconst (v := 0) (by decide) ?_
                      refine wa_istoreD (lv' := [(6, .int 0), (0, .ref 2), (1, .int a0), (5, .int l5)]) (by decide) rfl ?_
                      refine wa_sipush (v := 252) (by decide) ?_
                      refine wa_istoreD (lv' := [(7, .int 252), (6, .int 0), (0, .ref 2), (1, .int a0), (5, .int l5)]) (by decide) rfl ?_
                      refine wa_pick [2, 3, 4, 1, 0] rfl ?_
                      have hi150 : ∀ (n9_148 : Nat) (l6 : Int32) (l7 : Int32), ((0 ≤ l7.toInt) ∧ (True)) → (2147483647 - l7.toInt).toNat = n9_148 → WA G M_X1_isRight (ZM G M_X1_isRight d (fun r σ' => ∃ x : Bool, r = some (.int (bI x)) ∧ σ = σ' ∧ True)) B_X1_isRight_148 [(0, .ref 2), (1, .int a0), (5, .int l5), (6, .int l6), (7, .int l7)] [] σ := by
                        intro n9_148
                        induction n9_148 using Nat.strongRecOn with
                        | _ n9_148 ih149 =>
                          intro l6 l7  i9 m9_148
                          obtain ⟨jhi150_0, -⟩ := i9
                          have ul6 := Int32.toInt_lt l6
                          have wl6 := Int32.le_toInt l6
                          have ul7 := Int32.toInt_lt l7
                          have wl7 := Int32.le_toInt l7
                          refine wa_iload rfl ?_
                          refine wa_sipush (v := 256) (by decide) ?_
                          refine wa_icmp_ge o_X1_isRight_177 (by decide) (fun h151 => ?_) (fun h151 => ?_)
                          · refine wa_iload rfl ?_
                            refine wa_iload rfl ?_
                            refine wa_icmp_ne o_X1_isRight_188 (by decide) (fun h152 => ?_) (fun h152 => ?_)
                            · refine wa_iconst (v := 0) (by decide) ?_
                              refine wa_zreturn false (rfl) rfl rfl ?_
                              exact ⟨_, rfl, rfl, trivial⟩
                            · refine wa_iconst (v := 1) (by decide) ?_
                              refine wa_goto o_X1_isRight_189 (by decide) ?_
                              refine wa_zreturn true (rfl) rfl rfl ?_
                              exact ⟨_, rfl, rfl, trivial⟩
                          · have mh151 := nle_mx h151
                            refine wa_iload rfl ?_
                            refine wa_bipush (v := 8) (by decide) ?_
                            refine wa_ishl ?_
                            refine wa_top (fun v153 hv153 => ?_)
                            clear hv153
                            refine wa_aload_n (i := 0) rfl rfl ?_
                            refine wa_iload_n (i := 1) rfl rfl ?_
                            refine wa_iload rfl ?_
                            refine wa_Vi (d9 := d - 1) [.int _, .int _] [.int v153] (sp_X1_byteOf G (d := d - 1) (by omega) σ _ _) (rfl) rfl rfl (zr (by omega)) mk_X1_byteOf ly_2 ml_1_33 (Nat.le_of_ble_eq_true rfl) (fun x155 s154 hs154 => ?_)
                            obtain ⟨zs154, -⟩ := pI hs154
                            subst zs154
                            refine wa_ior ?_
                            refine wa_top (fun v156 hv156 => ?_)
                            clear hv156
                            refine wa_istoreD (lv' := [(6, .int v156), (0, .ref 2), (1, .int a0), (5, .int l5), (7, .int l7)]) (by decide) rfl ?_
                            refine wa_iinc (v := (1)) (lv' := fun y157 => [(7, .int y157), (6, .int v156), (0, .ref 2), (1, .int a0), (5, .int l5)]) (by decide) rfl (by decide) (fun _ => rfl) (fun y157 hy157 => ?_)
                            have ty157 := i_addT hy157.symm
                            clear hy157
                            refine wa_goto o_X1_isRight_148 (by decide) ?_
                            refine wa_pick [2, 3, 4, 1, 0] rfl ?_
                            exact ih149 _ (by ((try simp only [vp_in_iff, Int32.lt_iff_toInt_lt, Int32.le_iff_toInt_le, ← Int32.toInt_inj, Int32.reduceToInt, n_1, n_2, n_8, Int32.toNatClampNeg, Int64.lt_iff_toInt_lt, Int64.le_iff_toInt_le, ← Int64.toInt_inj, Int64.reduceToInt, Int32.toInt_toInt64, lg_cmp_ge, lg_cmp_le, lg_cmp_gt, lg_cmp_lt, lg_cmp_eq, Bool.false_eq_true, Bool.true_eq_false, reduceCtorEq, false_iff, true_iff, iff_true, iff_false, and_true, true_and, and_false, false_and, reduceIte, ite_true, ite_false, eq_self] at *)) <;> omega) _ _ ⟨(by ((try simp only [vp_in_iff, Int32.lt_iff_toInt_lt, Int32.le_iff_toInt_le, ← Int32.toInt_inj, Int32.reduceToInt, n_1, n_2, n_8, Int32.toNatClampNeg, Int64.lt_iff_toInt_lt, Int64.le_iff_toInt_le, ← Int64.toInt_inj, Int64.reduceToInt, Int32.toInt_toInt64, lg_cmp_ge, lg_cmp_le, lg_cmp_gt, lg_cmp_lt, lg_cmp_eq, Bool.false_eq_true, Bool.true_eq_false, reduceCtorEq, false_iff, true_iff, iff_true, iff_false, and_true, true_and, and_false, false_and, reduceIte, ite_true, ite_false, eq_self] at *)) <;> omega), trivial⟩ rfl
                      exact hi150 _ _ _ ⟨(by ((try simp only [vp_in_iff, Int32.lt_iff_toInt_lt, Int32.le_iff_toInt_le, ← Int32.toInt_inj, Int32.reduceToInt, n_1, n_2, n_8, Int32.toNatClampNeg, Int64.lt_iff_toInt_lt, Int64.le_iff_toInt_le, ← Int64.toInt_inj, Int64.reduceToInt, Int32.toInt_toInt64, lg_cmp_ge, lg_cmp_le, lg_cmp_gt, lg_cmp_lt, lg_cmp_eq, Bool.false_eq_true, Bool.true_eq_false, reduceCtorEq, false_iff, true_iff, iff_true, iff_false, and_true, true_and, and_false, false_and, reduceIte, ite_true, ite_false, eq_self] at *)) <;> omega), trivial⟩ rfl
                    · have mh148 := nle_mx h148
                      refine wa_iload rfl ?_
                      refine wa_aload_n (i := 0) rfl rfl ?_
                      refine wa_iload_n (i := 1) rfl rfl ?_
                      refine wa_iload rfl ?_
                      refine wa_Vi (d9 := d - 1) [.int _, .int _] [.int l5] (sp_X1_byteOf G (d := d - 1) (by omega) σ _ _) (rfl) rfl rfl (zr (by omega)) mk_X1_byteOf ly_2 ml_1_33 (Nat.le_of_ble_eq_true rfl) (fun x159 s158 hs158 => ?_)
                      obtain ⟨zs158, -⟩ := pI hs158
                      subst zs158
                      refine wa_Si (d9 := d - 1) [.int _, .int _] [] (sp_X1_summed G (d := d - 1) (by omega) σ _ _) (rfl) rfl rfl (zr (by omega)) mk_X1_summed ml_1_74 (Nat.le_of_ble_eq_true rfl) (fun x161 s160 hs160 => ?_)
                      obtain ⟨zs160, -⟩ := pI hs160
                      subst zs160
                      refine wa_istoreD (lv' := [(5, .int x161), (0, .ref 2), (1, .int a0), (6, .int l6)]) (by decide) rfl ?_
                      refine wa_iinc (v := (1)) (lv' := fun y162 => [(6, .int y162), (5, .int x161), (0, .ref 2), (1, .int a0)]) (by decide) rfl (by decide) (fun _ => rfl) (fun y162 hy162 => ?_)
                      have ty162 := i_addT hy162.symm
                      clear hy162
                      refine wa_goto o_X1_isRight_112 (by decide) ?_
                      refine wa_pick [2, 3, 1, 0] rfl ?_
                      exact ih146 _ (by ((try simp only [vp_in_iff, Int32.lt_iff_toInt_lt, Int32.le_iff_toInt_le, ← Int32.toInt_inj, Int32.reduceToInt, n_1, n_2, n_8, Int32.toNatClampNeg, Int64.lt_iff_toInt_lt, Int64.le_iff_toInt_le, ← Int64.toInt_inj, Int64.reduceToInt, Int32.toInt_toInt64, lg_cmp_ge, lg_cmp_le, lg_cmp_gt, lg_cmp_lt, lg_cmp_eq, Bool.false_eq_true, Bool.true_eq_false, reduceCtorEq, false_iff, true_iff, iff_true, iff_false, and_true, true_and, and_false, false_and, reduceIte, ite_true, ite_false, eq_self] at *)) <;> omega) _ _ ⟨(by ((try simp only [vp_in_iff, Int32.lt_iff_toInt_lt, Int32.le_iff_toInt_le, ← Int32.toInt_inj, Int32.reduceToInt, n_1, n_2, n_8, Int32.toNatClampNeg, Int64.lt_iff_toInt_lt, Int64.le_iff_toInt_le, ← Int64.toInt_inj, Int64.reduceToInt, Int32.toInt_toInt64, lg_cmp_ge, lg_cmp_le, lg_cmp_gt, lg_cmp_lt, lg_cmp_eq, Bool.false_eq_true, Bool.true_eq_false, reduceCtorEq, false_iff, true_iff, iff_true, iff_false, and_true, true_and, and_false, false_and, reduceIte, ite_true, ite_false, eq_self] at *)) <;> omega), trivial⟩ rfl
                exact hi147 _ _ _ ⟨(by ((try simp only [vp_in_iff, Int32.lt_iff_toInt_lt, Int32.le_iff_toInt_le, ← Int32.toInt_inj, Int32.reduceToInt, n_1, n_2, n_8, Int32.toNatClampNeg, Int64.lt_iff_toInt_lt, Int64.le_iff_toInt_le, ← Int64.toInt_inj, Int64.reduceToInt, Int32.toInt_toInt64, lg_cmp_ge, lg_cmp_le, lg_cmp_gt, lg_cmp_lt, lg_cmp_eq, Bool.false_eq_true, Bool.true_eq_false, reduceCtorEq, false_iff, true_iff, iff_true, iff_false, and_true, true_and, and_false, false_and, reduceIte, ite_true, ite_false, eq_self] at *)) <;> omega), trivial⟩ rfl
              · refine wa_iconst (v := 0) (by decide) ?_
                refine wa_zreturn false (rfl) rfl rfl ?_
                exact ⟨_, rfl, rfl, trivial⟩
      · replace h3 := bI_t (b := (gb σ 4 (a0).toNatClampNeg)) (rfl) h3
        refine wa_iconst (v := 0) (by decide) ?_
        refine wa_zreturn false (rfl) rfl rfl ?_
        exact ⟨_, rfl, rfl, trivial⟩
set_option maxHeartbeats 4000000 in
theorem sp_X1_firstWrong (G : kG9) {d : Nat} (hd : 3 ≤ d) (σ : St) (r1 : (gi σ 2 5).toInt ≤ 100) : Ct G M_X1_firstWrong d [.ref 2] σ (fun r σ' => ∃ x : Int32, r = some (.int x) ∧ σ = σ' ∧ True) := by
  refine wa_start (by decide) rfl (Nat.le_of_ble_eq_true rfl) (lv := [(0, .ref 2)]) rfl o_X1_firstWrong_0 rfl ?_
  refine wa_iconst (v := 1) (by decide) ?_
  refine wa_istore_nD (lv' := [(1, .int 1), (0, .ref 2)]) (i := 1) rfl (by decide) rfl ?_
  refine wa_pick [1, 0] rfl ?_
  have hi2 : ∀ (n9_2 : Nat) (l1 : Int32), ((0 ≤ l1.toInt) ∧ (True)) → (2147483647 - l1.toInt).toNat = n9_2 → WA G M_X1_firstWrong (ZM G M_X1_firstWrong d (fun r σ' => ∃ x : Int32, r = some (.int x) ∧ σ = σ' ∧ True)) B_X1_firstWrong_2 [(0, .ref 2), (1, .int l1)] [] σ := by
    intro n9_2
    induction n9_2 using Nat.strongRecOn with
    | _ n9_2 ih1 =>
      intro l1  i9 m9_2
      obtain ⟨jhi2_0, -⟩ := i9
      have ul1 := Int32.toInt_lt l1
      have wl1 := Int32.le_toInt l1
      refine wa_iload_n (i := 1) rfl rfl ?_
      refine wa_aload_n (i := 0) rfl rfl ?_
      refine wa_geti ck_1 fl_1_43 ly_2 ?_
      refine wa_icmp_gt o_X1_firstWrong_26 (by decide) (fun h3 => ?_) (fun h3 => ?_)
      · refine wa_iconst (v := (-1)) (by decide) ?_
        refine wa_ireturn rfl rfl ?_
        exact ⟨_, rfl, rfl, trivial⟩
      · refine wa_aload_n (i := 0) rfl rfl ?_
        refine wa_iload_n (i := 1) rfl rfl ?_
        refine wa_Vi (d9 := d - 1) [.int _] [] (sp_X1_isRight G (d := d - 1) (by omega) σ _) (rfl) rfl rfl (zr (by omega)) mk_X1_isRight ly_2 ml_1_78 (Nat.le_of_ble_eq_true rfl) (fun x5 s4 hs4 => ?_)
        obtain ⟨bx5, ex5, zs4, -⟩ := pB hs4
        subst ex5
        subst zs4
        refine wa_if_ne o_X1_firstWrong_20 (by decide) (fun h6 => ?_) (fun h6 => ?_)
        · replace h6 := bI_t (b := bx5) (rfl) h6
          refine wa_iinc (v := (1)) (lv' := fun y7 => [(1, .int y7), (0, .ref 2)]) (by decide) rfl (by decide) (fun _ => rfl) (fun y7 hy7 => ?_)
          have ty7 := i_addT hy7.symm
          clear hy7
          refine wa_goto o_X1_firstWrong_2 (by decide) ?_
          refine wa_pick [1, 0] rfl ?_
          exact ih1 _ (by ((try simp only [vp_in_iff, Int32.lt_iff_toInt_lt, Int32.le_iff_toInt_le, ← Int32.toInt_inj, Int32.reduceToInt, n_1, n_2, n_8, Int32.toNatClampNeg, Int64.lt_iff_toInt_lt, Int64.le_iff_toInt_le, ← Int64.toInt_inj, Int64.reduceToInt, Int32.toInt_toInt64, lg_cmp_ge, lg_cmp_le, lg_cmp_gt, lg_cmp_lt, lg_cmp_eq, Bool.false_eq_true, Bool.true_eq_false, reduceCtorEq, false_iff, true_iff, iff_true, iff_false, and_true, true_and, and_false, false_and, reduceIte, ite_true, ite_false, eq_self] at *)) <;> omega) _ ⟨(by ((try simp only [vp_in_iff, Int32.lt_iff_toInt_lt, Int32.le_iff_toInt_le, ← Int32.toInt_inj, Int32.reduceToInt, n_1, n_2, n_8, Int32.toNatClampNeg, Int64.lt_iff_toInt_lt, Int64.le_iff_toInt_le, ← Int64.toInt_inj, Int64.reduceToInt, Int32.toInt_toInt64, lg_cmp_ge, lg_cmp_le, lg_cmp_gt, lg_cmp_lt, lg_cmp_eq, Bool.false_eq_true, Bool.true_eq_false, reduceCtorEq, false_iff, true_iff, iff_true, iff_false, and_true, true_and, and_false, false_and, reduceIte, ite_true, ite_false, eq_self] at *)) <;> omega), trivial⟩ rfl
        · replace h6 := bI_f (b := bx5) (rfl) h6
          refine wa_iload_n (i := 1) rfl rfl ?_
          refine wa_ireturn rfl rfl ?_
          exact ⟨_, rfl, rfl, trivial⟩
  exact hi2 _ _ ⟨(by ((try simp only [vp_in_iff, Int32.lt_iff_toInt_lt, Int32.le_iff_toInt_le, ← Int32.toInt_inj, Int32.reduceToInt, n_1, n_2, n_8, Int32.toNatClampNeg, Int64.lt_iff_toInt_lt, Int64.le_iff_toInt_le, ← Int64.toInt_inj, Int64.reduceToInt, Int32.toInt_toInt64, lg_cmp_ge, lg_cmp_le, lg_cmp_gt, lg_cmp_lt, lg_cmp_eq, Bool.false_eq_true, Bool.true_eq_false, reduceCtorEq, false_iff, true_iff, iff_true, iff_false, and_true, true_and, and_false, false_and, reduceIte, ite_true, ite_false, eq_self] at *)) <;> omega), trivial⟩ rfl
set_option maxHeartbeats 4000000 in
theorem sp_X1_findUsed (G : kG9) {d : Nat} (hd : 3 ≤ d) (σ : St) : Ct G M_X1_findUsed d [.ref 2] σ (fun r σ' => ∃ x : Int32, r = some (.int x) ∧ σ = σ' ∧ True) := by
  refine wa_start (by decide) rfl (Nat.le_of_ble_eq_true rfl) (lv := [(0, .ref 2)]) rfl o_X1_findUsed_0 rfl ?_
  refine wa_iconst (v := 0) (by decide) ?_
  refine wa_istore_nD (lv' := [(1, .int 0), (0, .ref 2)]) (i := 1) rfl (by decide) rfl ?_
  refine wa_iconst (v := 1) (by decide) ?_
  refine wa_istore_nD (lv' := [(2, .int 1), (1, .int 0), (0, .ref 2)]) (i := 2) rfl (by decide) rfl ?_
  refine wa_pick [2, 1, 0] rfl ?_
  have hi2 : ∀ (n9_4 : Nat) (l1 : Int32) (l2 : Int32), ((0 ≤ l2.toInt) ∧ (True)) → (2147483647 - l2.toInt).toNat = n9_4 → WA G M_X1_findUsed (ZM G M_X1_findUsed d (fun r σ' => ∃ x : Int32, r = some (.int x) ∧ σ = σ' ∧ True)) B_X1_findUsed_4 [(0, .ref 2), (1, .int l1), (2, .int l2)] [] σ := by
    intro n9_4
    induction n9_4 using Nat.strongRecOn with
    | _ n9_4 ih1 =>
      intro l1 l2  i9 m9_4
      obtain ⟨jhi2_0, -⟩ := i9
      have ul1 := Int32.toInt_lt l1
      have wl1 := Int32.le_toInt l1
      have ul2 := Int32.toInt_lt l2
      have wl2 := Int32.le_toInt l2
      refine wa_iload_n (i := 2) rfl rfl ?_
      refine wa_bipush (v := 100) (by decide) ?_
      refine wa_icmp_gt o_X1_findUsed_36 (by decide) (fun h3 => ?_) (fun h3 => ?_)
      · refine wa_iload_n (i := 1) rfl rfl ?_
        refine wa_ireturn rfl rfl ?_
        exact ⟨_, rfl, rfl, trivial⟩
      · refine wa_aload_n (i := 0) rfl rfl ?_
        refine wa_iload_n (i := 2) rfl rfl ?_
        refine wa_Vi (d9 := d - 1) [.int _] [] (sp_X1_isRight G (d := d - 1) (by omega) σ _) (rfl) rfl rfl (zr (by omega)) mk_X1_isRight ly_2 ml_1_78 (Nat.le_of_ble_eq_true rfl) (fun x5 s4 hs4 => ?_)
        obtain ⟨bx5, ex5, zs4, -⟩ := pB hs4
        subst ex5
        subst zs4
        refine wa_if_eq o_X1_findUsed_36 (by decide) (fun h6 => ?_) (fun h6 => ?_)
        · replace h6 := bI_f (b := bx5) (rfl) h6
          refine wa_iload_n (i := 1) rfl rfl ?_
          refine wa_ireturn rfl rfl ?_
          exact ⟨_, rfl, rfl, trivial⟩
        · replace h6 := bI_t (b := bx5) (rfl) h6
          refine wa_aload_n (i := 0) rfl rfl ?_
          refine wa_iload_n (i := 2) rfl rfl ?_
          refine wa_iconst (v := 2) (by decide) ?_
          refine wa_Vi (d9 := d - 1) [.int _, .int _] [] (sp_X1_byteOf G (d := d - 1) (by omega) σ _ _) (rfl) rfl rfl (zr (by omega)) mk_X1_byteOf ly_2 ml_1_33 (Nat.le_of_ble_eq_true rfl) (fun x8 s7 hs7 => ?_)
          obtain ⟨zs7, -⟩ := pI hs7
          subst zs7
          refine wa_iconst (v := 1) (by decide) ?_
          refine wa_icmp_ne o_X1_findUsed_30 (by decide) (fun h9 => ?_) (fun h9 => ?_)
          · refine wa_iinc (v := (1)) (lv' := fun y10 => [(2, .int y10), (0, .ref 2), (1, .int l1)]) (by decide) rfl (by decide) (fun _ => rfl) (fun y10 hy10 => ?_)
            have ty10 := i_addT hy10.symm
            clear hy10
            refine wa_goto o_X1_findUsed_4 (by decide) ?_
            refine wa_pick [1, 2, 0] rfl ?_
            exact ih1 _ (by ((try simp only [vp_in_iff, Int32.lt_iff_toInt_lt, Int32.le_iff_toInt_le, ← Int32.toInt_inj, Int32.reduceToInt, n_1, n_2, n_8, Int32.toNatClampNeg, Int64.lt_iff_toInt_lt, Int64.le_iff_toInt_le, ← Int64.toInt_inj, Int64.reduceToInt, Int32.toInt_toInt64, lg_cmp_ge, lg_cmp_le, lg_cmp_gt, lg_cmp_lt, lg_cmp_eq, Bool.false_eq_true, Bool.true_eq_false, reduceCtorEq, false_iff, true_iff, iff_true, iff_false, and_true, true_and, and_false, false_and, reduceIte, ite_true, ite_false, eq_self] at *)) <;> omega) _ _ ⟨(by ((try simp only [vp_in_iff, Int32.lt_iff_toInt_lt, Int32.le_iff_toInt_le, ← Int32.toInt_inj, Int32.reduceToInt, n_1, n_2, n_8, Int32.toNatClampNeg, Int64.lt_iff_toInt_lt, Int64.le_iff_toInt_le, ← Int64.toInt_inj, Int64.reduceToInt, Int32.toInt_toInt64, lg_cmp_ge, lg_cmp_le, lg_cmp_gt, lg_cmp_lt, lg_cmp_eq, Bool.false_eq_true, Bool.true_eq_false, reduceCtorEq, false_iff, true_iff, iff_true, iff_false, and_true, true_and, and_false, false_and, reduceIte, ite_true, ite_false, eq_self] at *)) <;> omega), trivial⟩ rfl
          · refine wa_iload_n (i := 2) rfl rfl ?_
            refine wa_istore_nD (lv' := [(1, .int l2), (0, .ref 2), (2, .int l2)]) (i := 1) rfl (by decide) rfl ?_
            refine wa_iinc (v := (1)) (lv' := fun y11 => [(2, .int y11), (1, .int l2), (0, .ref 2)]) (by decide) rfl (by decide) (fun _ => rfl) (fun y11 hy11 => ?_)
            have ty11 := i_addT hy11.symm
            clear hy11
            refine wa_goto o_X1_findUsed_4 (by decide) ?_
            refine wa_pick [2, 1, 0] rfl ?_
            exact ih1 _ (by ((try simp only [vp_in_iff, Int32.lt_iff_toInt_lt, Int32.le_iff_toInt_le, ← Int32.toInt_inj, Int32.reduceToInt, n_1, n_2, n_8, Int32.toNatClampNeg, Int64.lt_iff_toInt_lt, Int64.le_iff_toInt_le, ← Int64.toInt_inj, Int64.reduceToInt, Int32.toInt_toInt64, lg_cmp_ge, lg_cmp_le, lg_cmp_gt, lg_cmp_lt, lg_cmp_eq, Bool.false_eq_true, Bool.true_eq_false, reduceCtorEq, false_iff, true_iff, iff_true, iff_false, and_true, true_and, and_false, false_and, reduceIte, ite_true, ite_false, eq_self] at *)) <;> omega) _ _ ⟨(by ((try simp only [vp_in_iff, Int32.lt_iff_toInt_lt, Int32.le_iff_toInt_le, ← Int32.toInt_inj, Int32.reduceToInt, n_1, n_2, n_8, Int32.toNatClampNeg, Int64.lt_iff_toInt_lt, Int64.le_iff_toInt_le, ← Int64.toInt_inj, Int64.reduceToInt, Int32.toInt_toInt64, lg_cmp_ge, lg_cmp_le, lg_cmp_gt, lg_cmp_lt, lg_cmp_eq, Bool.false_eq_true, Bool.true_eq_false, reduceCtorEq, false_iff, true_iff, iff_true, iff_false, and_true, true_and, and_false, false_and, reduceIte, ite_true, ite_false, eq_self] at *)) <;> omega), trivial⟩ rfl
  exact hi2 _ _ _ ⟨(by ((try simp only [vp_in_iff, Int32.lt_iff_toInt_lt, Int32.le_iff_toInt_le, ← Int32.toInt_inj, Int32.reduceToInt, n_1, n_2, n_8, Int32.toNatClampNeg, Int64.lt_iff_toInt_lt, Int64.le_iff_toInt_le, ← Int64.toInt_inj, Int64.reduceToInt, Int32.toInt_toInt64, lg_cmp_ge, lg_cmp_le, lg_cmp_gt, lg_cmp_lt, lg_cmp_eq, Bool.false_eq_true, Bool.true_eq_false, reduceCtorEq, false_iff, true_iff, iff_true, iff_false, and_true, true_and, and_false, false_and, reduceIte, ite_true, ite_false, eq_self] at *)) <;> omega), trivial⟩ rfl
set_option maxHeartbeats 4000000 in
theorem sp_X1_loadSync (G : kG9) {d : Nat} (hd : 2 ≤ d) (σ : St) (a0 : Int32) : Ct G M_X1_loadSync d [.ref 2, .int a0] σ (fun r σ' => ∃ x : Int32, r = some (.int x) ∧ Sm 2 7 σ σ' ∧ True) := by
  refine wa_start (by decide) rfl (Nat.le_of_ble_eq_true rfl) (lv := [(0, .ref 2), (1, .int a0)]) rfl o_X1_loadSync_0 rfl ?_
  have ua0 := Int32.toInt_lt a0
  have wa0 := Int32.le_toInt a0
  refine wa_aload_n (i := 0) rfl rfl ?_
  refine wa_iconst (v := 0) (by decide) ?_
  refine wa_puti ck_1 fl_1_40 ly_2 (fun s1 hs1 => ?_)
  have Fs1 : Sm 2 7 σ s1 := by rw [hs1]; exact Sm.si (Sm.rf 2 7 σ) _ _ (by decide) (by decide)
  refine wa_iload_n (i := 1) rfl rfl ?_
  refine wa_istore_nD (lv' := [(2, .int a0), (0, .ref 2), (1, .int a0)]) (i := 2) rfl (by decide) rfl ?_
  refine wa_iconst (v := 1) (by decide) ?_
  refine wa_istore_nD (lv' := [(3, .int (bI true)), (2, .int a0), (0, .ref 2), (1, .int a0)]) (i := 3) rfl (by decide) rfl ?_
  refine wa_iconst (v := 0) (by decide) ?_
  refine wa_istoreD (lv' := [(4, .int 0), (3, .int (bI true)), (2, .int a0), (0, .ref 2), (1, .int a0)]) (by decide) rfl ?_
  refine wa_pick [3, 2, 1, 0] rfl ?_
  have hi4 : ∀ (n9_12 : Nat) (l2 : Int32) (l3 : Bool) (l4 : Int32) (s2 : St), ((Sm 2 7 σ s2) ∧ (0 ≤ l4.toInt) ∧ (True)) → (2147483647 - l4.toInt).toNat = n9_12 → WA G M_X1_loadSync (ZM G M_X1_loadSync d (fun r σ' => ∃ x : Int32, r = some (.int x) ∧ Sm 2 7 σ σ' ∧ True)) B_X1_loadSync_12 [(0, .ref 2), (2, .int l2), (3, .int (bI l3)), (4, .int l4)] [] s2 := by
    intro n9_12
    induction n9_12 using Nat.strongRecOn with
    | _ n9_12 ih3 =>
      intro l2 l3 l4 s2 i9 m9_12
      obtain ⟨Fs2, jhi4_0, -⟩ := i9
      have ul2 := Int32.toInt_lt l2
      have wl2 := Int32.le_toInt l2
      have ul4 := Int32.toInt_lt l4
      have wl4 := Int32.le_toInt l4
      refine wa_iload rfl ?_
      refine wa_bipush (v := 100) (by decide) ?_
      refine wa_icmp_ge o_X1_loadSync_84 (by decide) (fun h5 => ?_) (fun h5 => ?_)
      · refine wa_iload_n (i := 2) rfl rfl ?_
        refine wa_ireturn rfl rfl ?_
        exact ⟨_, rfl, Fs2, trivial⟩
      · have mh5 := nle_mx h5
        refine wa_iload_n (i := 3) rfl rfl ?_
        refine wa_if_eq o_X1_loadSync_84 (by decide) (fun h6 => ?_) (fun h6 => ?_)
        · replace h6 := bI_f (b := l3) (rfl) h6
          refine wa_iload_n (i := 2) rfl rfl ?_
          refine wa_ireturn rfl rfl ?_
          exact ⟨_, rfl, Fs2, trivial⟩
        · replace h6 := bI_t (b := l3) (rfl) h6
          refine wa_aload_n (i := 0) rfl rfl ?_
          refine wa_iload_n (i := 2) rfl rfl ?_
          refine wa_iconst (v := 3) (by decide) ?_
          refine wa_Vi (d9 := d - 1) [.int _, .int _] [] (sp_X1_byteOf G (d := d - 1) (by omega) s2 _ _) (rfl) rfl rfl (zr (by omega)) mk_X1_byteOf ly_2 ml_1_33 (Nat.le_of_ble_eq_true rfl) (fun x8 s7 hs7 => ?_)
          obtain ⟨zs7, -⟩ := pI hs7
          subst zs7
          refine wa_istoreD (lv' := [(5, .int x8), (0, .ref 2), (2, .int l2), (3, .int (bI l3)), (4, .int l4)]) (by decide) rfl ?_
          refine wa_iconst (v := 0) (by decide) ?_
          refine wa_istoreD (lv' := [(6, .int 0), (5, .int x8), (0, .ref 2), (2, .int l2), (3, .int (bI l3)), (4, .int l4)]) (by decide) rfl ?_
          refine wa_pick [2, 3, 5, 1, 0] rfl ?_
          have hi11 : ∀ (n9_34 : Nat) (l6 : Int32) (s9 : St), ((Sm 2 7 σ s9) ∧ (0 ≤ l6.toInt) ∧ (True)) → (2147483647 - l6.toInt).toNat = n9_34 → WA G M_X1_loadSync (ZM G M_X1_loadSync d (fun r σ' => ∃ x : Int32, r = some (.int x) ∧ Sm 2 7 σ σ' ∧ True)) B_X1_loadSync_34 [(0, .ref 2), (2, .int l2), (4, .int l4), (5, .int x8), (6, .int l6)] [] s9 := by
            intro n9_34
            induction n9_34 using Nat.strongRecOn with
            | _ n9_34 ih10 =>
              intro l6 s9 i9 m9_34
              obtain ⟨Fs9, jhi11_0, -⟩ := i9
              have ul6 := Int32.toInt_lt l6
              have wl6 := Int32.le_toInt l6
              refine wa_iload rfl ?_
              refine wa_iload rfl ?_
              refine wa_icmp_ge o_X1_loadSync_60 (by decide) (fun h12 => ?_) (fun h12 => ?_)
              · refine wa_aload_n (i := 0) rfl rfl ?_
                refine wa_iload_n (i := 2) rfl rfl ?_
                refine wa_iconst (v := 2) (by decide) ?_
                refine wa_Vi (d9 := d - 1) [.int _, .int _] [] (sp_X1_byteOf G (d := d - 1) (by omega) s9 _ _) (rfl) rfl rfl (zr (by omega)) mk_X1_byteOf ly_2 ml_1_33 (Nat.le_of_ble_eq_true rfl) (fun x14 s13 hs13 => ?_)
                obtain ⟨zs13, -⟩ := pI hs13
                subst zs13
                refine wa_if_ne o_X1_loadSync_73 (by decide) (fun h15 => ?_) (fun h15 => ?_)
                · refine wa_iconst (v := 0) (by decide) ?_
                  refine wa_istore_nD (lv' := [(3, .int (bI false)), (0, .ref 2), (2, .int l2), (4, .int l4), (5, .int x8), (6, .int l6)]) (i := 3) rfl (by decide) rfl ?_
                  refine wa_iinc (v := (1)) (lv' := fun y16 => [(2, .int y16), (3, .int (bI false)), (0, .ref 2), (4, .int l4), (5, .int x8), (6, .int l6)]) (by decide) rfl (by decide) (fun _ => rfl) (fun y16 hy16 => ?_)
                  have ty16 := i_addT hy16.symm
                  clear hy16
                  refine wa_iinc (v := (1)) (lv' := fun y17 => [(4, .int y17), (2, .int y16), (3, .int (bI false)), (0, .ref 2), (5, .int x8), (6, .int l6)]) (by decide) rfl (by decide) (fun _ => rfl) (fun y17 hy17 => ?_)
                  have ty17 := i_addT hy17.symm
                  clear hy17
                  refine wa_goto o_X1_loadSync_12 (by decide) ?_
                  refine wa_pick [3, 1, 2, 0] rfl ?_
                  exact ih3 _ (by ((try simp only [vp_in_iff, Int32.lt_iff_toInt_lt, Int32.le_iff_toInt_le, ← Int32.toInt_inj, Int32.reduceToInt, n_1, n_2, n_8, Int32.toNatClampNeg, Int64.lt_iff_toInt_lt, Int64.le_iff_toInt_le, ← Int64.toInt_inj, Int64.reduceToInt, Int32.toInt_toInt64, lg_cmp_ge, lg_cmp_le, lg_cmp_gt, lg_cmp_lt, lg_cmp_eq, Bool.false_eq_true, Bool.true_eq_false, reduceCtorEq, false_iff, true_iff, iff_true, iff_false, and_true, true_and, and_false, false_and, reduceIte, ite_true, ite_false, eq_self] at *)) <;> omega) _ _ _ _ ⟨Fs9, (by ((try simp only [vp_in_iff, Int32.lt_iff_toInt_lt, Int32.le_iff_toInt_le, ← Int32.toInt_inj, Int32.reduceToInt, n_1, n_2, n_8, Int32.toNatClampNeg, Int64.lt_iff_toInt_lt, Int64.le_iff_toInt_le, ← Int64.toInt_inj, Int64.reduceToInt, Int32.toInt_toInt64, lg_cmp_ge, lg_cmp_le, lg_cmp_gt, lg_cmp_lt, lg_cmp_eq, Bool.false_eq_true, Bool.true_eq_false, reduceCtorEq, false_iff, true_iff, iff_true, iff_false, and_true, true_and, and_false, false_and, reduceIte, ite_true, ite_false, eq_self] at *)) <;> omega), trivial⟩ rfl
                · refine wa_iconst (v := 1) (by decide) ?_
                  refine wa_goto o_X1_loadSync_74 (by decide) ?_
                  refine wa_istore_nD (lv' := [(3, .int (bI true)), (0, .ref 2), (2, .int l2), (4, .int l4), (5, .int x8), (6, .int l6)]) (i := 3) rfl (by decide) rfl ?_
                  refine wa_iinc (v := (1)) (lv' := fun y18 => [(2, .int y18), (3, .int (bI true)), (0, .ref 2), (4, .int l4), (5, .int x8), (6, .int l6)]) (by decide) rfl (by decide) (fun _ => rfl) (fun y18 hy18 => ?_)
                  have ty18 := i_addT hy18.symm
                  clear hy18
                  refine wa_iinc (v := (1)) (lv' := fun y19 => [(4, .int y19), (2, .int y18), (3, .int (bI true)), (0, .ref 2), (5, .int x8), (6, .int l6)]) (by decide) rfl (by decide) (fun _ => rfl) (fun y19 hy19 => ?_)
                  have ty19 := i_addT hy19.symm
                  clear hy19
                  refine wa_goto o_X1_loadSync_12 (by decide) ?_
                  refine wa_pick [3, 1, 2, 0] rfl ?_
                  exact ih3 _ (by ((try simp only [vp_in_iff, Int32.lt_iff_toInt_lt, Int32.le_iff_toInt_le, ← Int32.toInt_inj, Int32.reduceToInt, n_1, n_2, n_8, Int32.toNatClampNeg, Int64.lt_iff_toInt_lt, Int64.le_iff_toInt_le, ← Int64.toInt_inj, Int64.reduceToInt, Int32.toInt_toInt64, lg_cmp_ge, lg_cmp_le, lg_cmp_gt, lg_cmp_lt, lg_cmp_eq, Bool.false_eq_true, Bool.true_eq_false, reduceCtorEq, false_iff, true_iff, iff_true, iff_false, and_true, true_and, and_false, false_and, reduceIte, ite_true, ite_false, eq_self] at *)) <;> omega) _ _ _ _ ⟨Fs9, (by ((try simp only [vp_in_iff, Int32.lt_iff_toInt_lt, Int32.le_iff_toInt_le, ← Int32.toInt_inj, Int32.reduceToInt, n_1, n_2, n_8, Int32.toNatClampNeg, Int64.lt_iff_toInt_lt, Int64.le_iff_toInt_le, ← Int64.toInt_inj, Int64.reduceToInt, Int32.toInt_toInt64, lg_cmp_ge, lg_cmp_le, lg_cmp_gt, lg_cmp_lt, lg_cmp_eq, Bool.false_eq_true, Bool.true_eq_false, reduceCtorEq, false_iff, true_iff, iff_true, iff_false, and_true, true_and, and_false, false_and, reduceIte, ite_true, ite_false, eq_self] at *)) <;> omega), trivial⟩ rfl
              · have mh12 := nle_mx h12
                refine wa_aload_n (i := 0) rfl rfl ?_
                refine wa_aload_n (i := 0) rfl rfl ?_
                refine wa_iload_n (i := 2) rfl rfl ?_
                refine wa_iconst (v := 4) (by decide) ?_
                refine wa_iload rfl ?_
                refine wa_iadd ?_
                refine wa_top (fun v20 hv20 => ?_)
                have tv20 := i_addT hv20
                clear hv20
                refine wa_Vi (d9 := d - 1) [.int _, .int _] [.ref 2] (sp_X1_byteOf G (d := d - 1) (by omega) s9 _ _) (rfl) rfl rfl (zr (by omega)) mk_X1_byteOf ly_2 ml_1_33 (Nat.le_of_ble_eq_true rfl) (fun x22 s21 hs21 => ?_)
                obtain ⟨zs21, -⟩ := pI hs21
                subst zs21
                refine wa_Vv (d9 := d - 1) [.int _] [] (sp_X1_await G (d := d - 1) (by omega) s9 _) (rfl) rfl rfl (zr (by omega)) mk_X1_await ly_2 ml_1_50 (Nat.le_of_ble_eq_true rfl) (fun s23 hs23 => ?_)
                obtain ⟨fs23, -⟩ := hs23
                have Fs23 := Sm.tr Fs9 (Sm.wd fs23 (lo' := 2) (hi' := 7) (by decide) (by decide))
                refine wa_iinc (v := (1)) (lv' := fun y25 => [(6, .int y25), (0, .ref 2), (2, .int l2), (4, .int l4), (5, .int x8)]) (by decide) rfl (by decide) (fun _ => rfl) (fun y25 hy25 => ?_)
                have ty25 := i_addT hy25.symm
                clear hy25
                refine wa_goto o_X1_loadSync_34 (by decide) ?_
                refine wa_pick [1, 2, 3, 4, 0] rfl ?_
                exact ih10 _ (by ((try simp only [vp_in_iff, Int32.lt_iff_toInt_lt, Int32.le_iff_toInt_le, ← Int32.toInt_inj, Int32.reduceToInt, n_1, n_2, n_8, Int32.toNatClampNeg, Int64.lt_iff_toInt_lt, Int64.le_iff_toInt_le, ← Int64.toInt_inj, Int64.reduceToInt, Int32.toInt_toInt64, lg_cmp_ge, lg_cmp_le, lg_cmp_gt, lg_cmp_lt, lg_cmp_eq, Bool.false_eq_true, Bool.true_eq_false, reduceCtorEq, false_iff, true_iff, iff_true, iff_false, and_true, true_and, and_false, false_and, reduceIte, ite_true, ite_false, eq_self] at *)) <;> omega) _ _ ⟨Fs23, (by ((try simp only [vp_in_iff, Int32.lt_iff_toInt_lt, Int32.le_iff_toInt_le, ← Int32.toInt_inj, Int32.reduceToInt, n_1, n_2, n_8, Int32.toNatClampNeg, Int64.lt_iff_toInt_lt, Int64.le_iff_toInt_le, ← Int64.toInt_inj, Int64.reduceToInt, Int32.toInt_toInt64, lg_cmp_ge, lg_cmp_le, lg_cmp_gt, lg_cmp_lt, lg_cmp_eq, Bool.false_eq_true, Bool.true_eq_false, reduceCtorEq, false_iff, true_iff, iff_true, iff_false, and_true, true_and, and_false, false_and, reduceIte, ite_true, ite_false, eq_self] at *)) <;> omega), trivial⟩ rfl
          exact hi11 _ _ _ ⟨Fs2, (by ((try simp only [vp_in_iff, Int32.lt_iff_toInt_lt, Int32.le_iff_toInt_le, ← Int32.toInt_inj, Int32.reduceToInt, n_1, n_2, n_8, Int32.toNatClampNeg, Int64.lt_iff_toInt_lt, Int64.le_iff_toInt_le, ← Int64.toInt_inj, Int64.reduceToInt, Int32.toInt_toInt64, lg_cmp_ge, lg_cmp_le, lg_cmp_gt, lg_cmp_lt, lg_cmp_eq, Bool.false_eq_true, Bool.true_eq_false, reduceCtorEq, false_iff, true_iff, iff_true, iff_false, and_true, true_and, and_false, false_and, reduceIte, ite_true, ite_false, eq_self] at *)) <;> omega), trivial⟩ rfl
  exact hi4 _ _ _ _ _ ⟨Fs1, (by ((try simp only [vp_in_iff, Int32.lt_iff_toInt_lt, Int32.le_iff_toInt_le, ← Int32.toInt_inj, Int32.reduceToInt, n_1, n_2, n_8, Int32.toNatClampNeg, Int64.lt_iff_toInt_lt, Int64.le_iff_toInt_le, ← Int64.toInt_inj, Int64.reduceToInt, Int32.toInt_toInt64, lg_cmp_ge, lg_cmp_le, lg_cmp_gt, lg_cmp_lt, lg_cmp_eq, Bool.false_eq_true, Bool.true_eq_false, reduceCtorEq, false_iff, true_iff, iff_true, iff_false, and_true, true_and, and_false, false_and, reduceIte, ite_true, ite_false, eq_self] at *)) <;> omega), trivial⟩ rfl
set_option maxHeartbeats 4000000 in
theorem sp_X1_recordSize (G : kG9) {d : Nat} (hd : 2 ≤ d) (σ : St) (a0 : Int32) : Ct G M_X1_recordSize d [.ref 2, .int a0] σ (fun r σ' => ∃ x : Int32, r = some (.int x) ∧ σ = σ' ∧ True) := by
  refine wa_start (by decide) rfl (Nat.le_of_ble_eq_true rfl) (lv := [(0, .ref 2), (1, .int a0)]) rfl o_X1_recordSize_0 rfl ?_
  have ua0 := Int32.toInt_lt a0
  have wa0 := Int32.le_toInt a0
  refine wa_aload_n (i := 0) rfl rfl ?_
  refine wa_iload_n (i := 1) rfl rfl ?_
  refine wa_Vi (d9 := d - 1) [.int _] [] (sp_X1_waitingByte G (d := d - 1) (by omega) σ _) (rfl) rfl rfl (zr (by omega)) mk_X1_waitingByte ly_2 ml_1_46 (Nat.le_of_ble_eq_true rfl) (fun x2 s1 hs1 => ?_)
  obtain ⟨zs1, -⟩ := pI hs1
  subst zs1
  refine wa_istore_nD (lv' := [(2, .int x2), (0, .ref 2), (1, .int a0)]) (i := 2) rfl (by decide) rfl ?_
  refine wa_iconst (v := 0) (by decide) ?_
  refine wa_istore_nD (lv' := [(3, .int 0), (2, .int x2), (0, .ref 2), (1, .int a0)]) (i := 3) rfl (by decide) rfl ?_
  refine wa_iload_n (i := 2) rfl rfl ?_
  refine wa_iconst (v := 3) (by decide) ?_
  refine wa_icmp_eq o_X1_recordSize_18 (by decide) (fun h3 => ?_) (fun h3 => ?_)
  · refine wa_iconst (v := 1) (by decide) ?_
    refine wa_istore_nD (lv' := [(3, .int 1), (2, .int x2), (0, .ref 2), (1, .int a0)]) (i := 3) rfl (by decide) rfl ?_
    refine wa_goto o_X1_recordSize_110 (by decide) ?_
    refine wa_iload_n (i := 1) rfl rfl ?_
    refine wa_iload_n (i := 3) rfl rfl ?_
    refine wa_iadd ?_
    refine wa_top (fun v4 hv4 => ?_)
    have tv4 := i_addT hv4
    clear hv4
    refine wa_aload_n (i := 0) rfl rfl ?_
    refine wa_geti ck_1 fl_1_40 ly_2 ?_
    refine wa_icmp_gt o_X1_recordSize_124 (by decide) (fun h5 => ?_) (fun h5 => ?_)
    · refine wa_iconst (v := 0) (by decide) ?_
      refine wa_ireturn rfl rfl ?_
      exact ⟨_, rfl, rfl, trivial⟩
    · refine wa_iload_n (i := 3) rfl rfl ?_
      refine wa_goto o_X1_recordSize_125 (by decide) ?_
      refine wa_ireturn rfl rfl ?_
      exact ⟨_, rfl, rfl, trivial⟩
  · refine wa_iload_n (i := 2) rfl rfl ?_
    refine wa_iconst (v := 4) (by decide) ?_
    refine wa_icmp_ne o_X1_recordSize_23 (by decide) (fun h6 => ?_) (fun h6 => ?_)
    · refine wa_iload_n (i := 2) rfl rfl ?_
      refine wa_iconst (v := 2) (by decide) ?_
      refine wa_icmp_ne o_X1_recordSize_58 (by decide) (fun h7 => ?_) (fun h7 => ?_)
      · refine wa_iload_n (i := 2) rfl rfl ?_
        refine wa_iconst (v := 1) (by decide) ?_
        refine wa_icmp_ne o_X1_recordSize_110 (by decide) (fun h8 => ?_) (fun h8 => ?_)
        · refine wa_iload_n (i := 1) rfl rfl ?_
          refine wa_iload_n (i := 3) rfl rfl ?_
          refine wa_iadd ?_
          refine wa_top (fun v9 hv9 => ?_)
          have tv9 := i_addT hv9
          clear hv9
          refine wa_aload_n (i := 0) rfl rfl ?_
          refine wa_geti ck_1 fl_1_40 ly_2 ?_
          refine wa_icmp_gt o_X1_recordSize_124 (by decide) (fun h10 => ?_) (fun h10 => ?_)
          · refine wa_iconst (v := 0) (by decide) ?_
            refine wa_ireturn rfl rfl ?_
            exact ⟨_, rfl, rfl, trivial⟩
          · refine wa_iload_n (i := 3) rfl rfl ?_
            refine wa_goto o_X1_recordSize_125 (by decide) ?_
            refine wa_ireturn rfl rfl ?_
            exact ⟨_, rfl, rfl, trivial⟩
        · refine wa_iload_n (i := 1) rfl rfl ?_
          refine wa_iconst (v := 3) (by decide) ?_
          refine wa_iadd ?_
          refine wa_top (fun v11 hv11 => ?_)
          have tv11 := i_addT hv11
          clear hv11
          refine wa_aload_n (i := 0) rfl rfl ?_
          refine wa_geti ck_1 fl_1_40 ly_2 ?_
          refine wa_icmp_gt o_X1_recordSize_110 (by decide) (fun h12 => ?_) (fun h12 => ?_)
          · refine wa_iload_n (i := 1) rfl rfl ?_
            refine wa_iload_n (i := 3) rfl rfl ?_
            refine wa_iadd ?_
            refine wa_top (fun v13 hv13 => ?_)
            have tv13 := i_addT hv13
            clear hv13
            refine wa_aload_n (i := 0) rfl rfl ?_
            refine wa_geti ck_1 fl_1_40 ly_2 ?_
            refine wa_icmp_gt o_X1_recordSize_124 (by decide) (fun h14 => ?_) (fun h14 => ?_)
            · refine wa_iconst (v := 0) (by decide) ?_
              refine wa_ireturn rfl rfl ?_
              exact ⟨_, rfl, rfl, trivial⟩
            · refine wa_iload_n (i := 3) rfl rfl ?_
              refine wa_goto o_X1_recordSize_125 (by decide) ?_
              refine wa_ireturn rfl rfl ?_
              exact ⟨_, rfl, rfl, trivial⟩
          · refine wa_aload_n (i := 0) rfl rfl ?_
            refine wa_iload_n (i := 1) rfl rfl ?_
            refine wa_iconst (v := 1) (by decide) ?_
            refine wa_iadd ?_
            refine wa_top (fun v15 hv15 => ?_)
            have tv15 := i_addT hv15
            clear hv15
            refine wa_Vi (d9 := d - 1) [.int _] [] (sp_X1_waitingByte G (d := d - 1) (by omega) σ _) (rfl) rfl rfl (zr (by omega)) mk_X1_waitingByte ly_2 ml_1_46 (Nat.le_of_ble_eq_true rfl) (fun x17 s16 hs16 => ?_)
            obtain ⟨zs16, -⟩ := pI hs16
            subst zs16
            refine wa_bipush (v := 8) (by decide) ?_
            refine wa_ishl ?_
            refine wa_top (fun v18 hv18 => ?_)
            clear hv18
            refine wa_aload_n (i := 0) rfl rfl ?_
            refine wa_iload_n (i := 1) rfl rfl ?_
            refine wa_iconst (v := 2) (by decide) ?_
            refine wa_iadd ?_
            refine wa_top (fun v19 hv19 => ?_)
            have tv19 := i_addT hv19
            clear hv19
            refine wa_Vi (d9 := d - 1) [.int _] [.int v18] (sp_X1_waitingByte G (d := d - 1) (by omega) σ _) (rfl) rfl rfl (zr (by omega)) mk_X1_waitingByte ly_2 ml_1_46 (Nat.le_of_ble_eq_true rfl) (fun x21 s20 hs20 => ?_)
            obtain ⟨zs20, -⟩ := pI hs20
            subst zs20
            refine wa_ior ?_
            refine wa_top (fun v22 hv22 => ?_)
            clear hv22
            refine wa_istoreD (lv' := [(4, .int v22), (3, .int 0), (2, .int x2), (0, .ref 2), (1, .int a0)]) (by decide) rfl ?_
            refine wa_iload rfl ?_
            refine wa_sipush (v := 2000) (by decide) ?_
            refine wa_icmp_gt o_X1_recordSize_108 (by decide) (fun h23 => ?_) (fun h23 => ?_)
            · refine wa_iconst (v := 0) (by decide) ?_
              refine wa_istore_nD (lv' := [(3, .int 0), (4, .int v22), (2, .int x2), (0, .ref 2), (1, .int a0)]) (i := 3) rfl (by decide) rfl ?_
              refine wa_iload_n (i := 1) rfl rfl ?_
              refine wa_iload_n (i := 3) rfl rfl ?_
              refine wa_iadd ?_
              refine wa_top (fun v24 hv24 => ?_)
              have tv24 := i_addT hv24
              clear hv24
              refine wa_aload_n (i := 0) rfl rfl ?_
              refine wa_geti ck_1 fl_1_40 ly_2 ?_
              refine wa_icmp_gt o_X1_recordSize_124 (by decide) (fun h25 => ?_) (fun h25 => ?_)
              · refine wa_iconst (v := 0) (by decide) ?_
                refine wa_ireturn rfl rfl ?_
                exact ⟨_, rfl, rfl, trivial⟩
              · refine wa_iload_n (i := 3) rfl rfl ?_
                refine wa_goto o_X1_recordSize_125 (by decide) ?_
                refine wa_ireturn rfl rfl ?_
                exact ⟨_, rfl, rfl, trivial⟩
            · refine wa_iconst (v := 3) (by decide) ?_
              refine wa_iload rfl ?_
              refine wa_iadd ?_
              refine wa_top (fun v26 hv26 => ?_)
              have tv26 := i_addT hv26
              clear hv26
              refine wa_goto o_X1_recordSize_109 (by decide) ?_
              refine wa_istore_nD (lv' := [(3, .int v26), (4, .int v22), (2, .int x2), (0, .ref 2), (1, .int a0)]) (i := 3) rfl (by decide) rfl ?_
              refine wa_iload_n (i := 1) rfl rfl ?_
              refine wa_iload_n (i := 3) rfl rfl ?_
              refine wa_iadd ?_
              refine wa_top (fun v27 hv27 => ?_)
              have tv27 := i_addT hv27
              clear hv27
              refine wa_aload_n (i := 0) rfl rfl ?_
              refine wa_geti ck_1 fl_1_40 ly_2 ?_
              refine wa_icmp_gt o_X1_recordSize_124 (by decide) (fun h28 => ?_) (fun h28 => ?_)
              · refine wa_iconst (v := 0) (by decide) ?_
                refine wa_ireturn rfl rfl ?_
                exact ⟨_, rfl, rfl, trivial⟩
              · refine wa_iload_n (i := 3) rfl rfl ?_
                refine wa_goto o_X1_recordSize_125 (by decide) ?_
                refine wa_ireturn rfl rfl ?_
                exact ⟨_, rfl, rfl, trivial⟩
      · refine wa_aload_n (i := 0) rfl rfl ?_
        refine wa_iload_n (i := 1) rfl rfl ?_
        refine wa_iconst (v := 5) (by decide) ?_
        refine wa_iadd ?_
        refine wa_top (fun v29 hv29 => ?_)
        have tv29 := i_addT hv29
        clear hv29
        refine wa_Vi (d9 := d - 1) [.int _] [] (sp_X1_waitingInt G (d := d - 1) (by omega) σ _) (rfl) rfl rfl (zr (by omega)) mk_X1_waitingInt ly_2 ml_1_81 (Nat.le_of_ble_eq_true rfl) (fun x31 s30 hs30 => ?_)
        obtain ⟨zs30, -⟩ := pI hs30
        subst zs30
        refine wa_istoreD (lv' := [(4, .int x31), (3, .int 0), (2, .int x2), (0, .ref 2), (1, .int a0)]) (by decide) rfl ?_
        refine wa_iload rfl ?_
        refine wa_if_eq o_X1_recordSize_48 (by decide) (fun h32 => ?_) (fun h32 => ?_)
        · refine wa_bipush (v := 9) (by decide) ?_
          refine wa_goto o_X1_recordSize_54 (by decide) ?_
          refine wa_istore_nD (lv' := [(3, .int 9), (4, .int x31), (2, .int x2), (0, .ref 2), (1, .int a0)]) (i := 3) rfl (by decide) rfl ?_
          refine wa_goto o_X1_recordSize_110 (by decide) ?_
          refine wa_iload_n (i := 1) rfl rfl ?_
          refine wa_iload_n (i := 3) rfl rfl ?_
          refine wa_iadd ?_
          refine wa_top (fun v33 hv33 => ?_)
          have tv33 := i_addT hv33
          clear hv33
          refine wa_aload_n (i := 0) rfl rfl ?_
          refine wa_geti ck_1 fl_1_40 ly_2 ?_
          refine wa_icmp_gt o_X1_recordSize_124 (by decide) (fun h34 => ?_) (fun h34 => ?_)
          · refine wa_iconst (v := 0) (by decide) ?_
            refine wa_ireturn rfl rfl ?_
            exact ⟨_, rfl, rfl, trivial⟩
          · refine wa_iload_n (i := 3) rfl rfl ?_
            refine wa_goto o_X1_recordSize_125 (by decide) ?_
            refine wa_ireturn rfl rfl ?_
            exact ⟨_, rfl, rfl, trivial⟩
        · refine wa_iload rfl ?_
          refine wa_iconst (v := 1) (by decide) ?_
          refine wa_icmp_ne o_X1_recordSize_53 (by decide) (fun h35 => ?_) (fun h35 => ?_)
          · refine wa_iconst (v := 0) (by decide) ?_
            refine wa_istore_nD (lv' := [(3, .int 0), (4, .int x31), (2, .int x2), (0, .ref 2), (1, .int a0)]) (i := 3) rfl (by decide) rfl ?_
            refine wa_goto o_X1_recordSize_110 (by decide) ?_
            refine wa_iload_n (i := 1) rfl rfl ?_
            refine wa_iload_n (i := 3) rfl rfl ?_
            refine wa_iadd ?_
            refine wa_top (fun v36 hv36 => ?_)
            have tv36 := i_addT hv36
            clear hv36
            refine wa_aload_n (i := 0) rfl rfl ?_
            refine wa_geti ck_1 fl_1_40 ly_2 ?_
            refine wa_icmp_gt o_X1_recordSize_124 (by decide) (fun h37 => ?_) (fun h37 => ?_)
            · refine wa_iconst (v := 0) (by decide) ?_
              refine wa_ireturn rfl rfl ?_
              exact ⟨_, rfl, rfl, trivial⟩
            · refine wa_iload_n (i := 3) rfl rfl ?_
              refine wa_goto o_X1_recordSize_125 (by decide) ?_
              refine wa_ireturn rfl rfl ?_
              exact ⟨_, rfl, rfl, trivial⟩
          · refine wa_bipush (v := 9) (by decide) ?_
            refine wa_goto o_X1_recordSize_54 (by decide) ?_
            refine wa_istore_nD (lv' := [(3, .int 9), (4, .int x31), (2, .int x2), (0, .ref 2), (1, .int a0)]) (i := 3) rfl (by decide) rfl ?_
            refine wa_goto o_X1_recordSize_110 (by decide) ?_
            refine wa_iload_n (i := 1) rfl rfl ?_
            refine wa_iload_n (i := 3) rfl rfl ?_
            refine wa_iadd ?_
            refine wa_top (fun v38 hv38 => ?_)
            have tv38 := i_addT hv38
            clear hv38
            refine wa_aload_n (i := 0) rfl rfl ?_
            refine wa_geti ck_1 fl_1_40 ly_2 ?_
            refine wa_icmp_gt o_X1_recordSize_124 (by decide) (fun h39 => ?_) (fun h39 => ?_)
            · refine wa_iconst (v := 0) (by decide) ?_
              refine wa_ireturn rfl rfl ?_
              exact ⟨_, rfl, rfl, trivial⟩
            · refine wa_iload_n (i := 3) rfl rfl ?_
              refine wa_goto o_X1_recordSize_125 (by decide) ?_
              refine wa_ireturn rfl rfl ?_
              exact ⟨_, rfl, rfl, trivial⟩
    · refine wa_iconst (v := 1) (by decide) ?_
      refine wa_istore_nD (lv' := [(3, .int 1), (2, .int x2), (0, .ref 2), (1, .int a0)]) (i := 3) rfl (by decide) rfl ?_
      refine wa_goto o_X1_recordSize_110 (by decide) ?_
      refine wa_iload_n (i := 1) rfl rfl ?_
      refine wa_iload_n (i := 3) rfl rfl ?_
      refine wa_iadd ?_
      refine wa_top (fun v40 hv40 => ?_)
      have tv40 := i_addT hv40
      clear hv40
      refine wa_aload_n (i := 0) rfl rfl ?_
      refine wa_geti ck_1 fl_1_40 ly_2 ?_
      refine wa_icmp_gt o_X1_recordSize_124 (by decide) (fun h41 => ?_) (fun h41 => ?_)
      · refine wa_iconst (v := 0) (by decide) ?_
        refine wa_ireturn rfl rfl ?_
        exact ⟨_, rfl, rfl, trivial⟩
      · refine wa_iload_n (i := 3) rfl rfl ?_
        refine wa_goto o_X1_recordSize_125 (by decide) ?_
        refine wa_ireturn rfl rfl ?_
        exact ⟨_, rfl, rfl, trivial⟩
set_option maxHeartbeats 4000000 in
theorem sp_X1_comeUp (G : kG9) {d : Nat} (hd : 0 ≤ d) (σ : St) (a0 : Int32) : Ct G M_X1_comeUp d [.ref 2, .int a0] σ (fun r σ' => Sm 2 3 σ σ' ∧ True) := by
  refine wa_start (by decide) rfl (Nat.le_of_ble_eq_true rfl) (lv := [(0, .ref 2), (1, .int a0)]) rfl o_X1_comeUp_0 rfl ?_
  have ua0 := Int32.toInt_lt a0
  have wa0 := Int32.le_toInt a0
  refine wa_aload_n (i := 0) rfl rfl ?_
  refine wa_iload_n (i := 1) rfl rfl ?_
  refine wa_puti ck_1 fl_1_43 ly_2 (fun s1 hs1 => ?_)
  have Fs1 : Sm 2 3 σ s1 := by rw [hs1]; exact Sm.si (Sm.rf 2 3 σ) _ _ (by decide) (by decide)
  refine wa_aload_n (i := 0) rfl rfl ?_
  refine wa_iconst (v := 0) (by decide) ?_
  refine wa_puti ck_1 fl_1_40 ly_2 (fun s2 hs2 => ?_)
  have Fs2 : Sm 2 3 σ s2 := by rw [hs2]; exact Sm.si Fs1 _ _ (by decide) (by decide)
  refine wa_aload_n (i := 0) rfl rfl ?_
  refine wa_iconst (v := (-1)) (by decide) ?_
  refine wa_puti ck_1 fl_1_25 ly_2 (fun s3 hs3 => ?_)
  have Fs3 : Sm 2 3 σ s3 := by rw [hs3]; exact Sm.si Fs2 _ _ (by decide) (by decide)
  refine wa_aload_n (i := 0) rfl rfl ?_
  refine wa_iconst (v := 0) (by decide) ?_
  refine wa_putz false (rfl) ck_1 fl_1_65 ly_2 (fun s4 hs4 => ?_)
  have Fs4 : Sm 2 3 σ s4 := by rw [hs4]; exact Sm.sb Fs3 _ _ (by decide) (by decide)
  refine wa_return (st := []) rfl rfl ?_
  exact ⟨Fs4, trivial⟩
set_option maxHeartbeats 4000000 in
theorem sp_X2_cutBack (G : kG9) {d : Nat} (hd : 0 ≤ d) (σ : St) (a0 : Int32) (a1 : Int32) (a2 : Int32) : Ct G M_X2_cutBack d [.ref 7, .int a0, .int a1, .int a2] σ (fun r σ' => Sm 7 8 σ σ' ∧ True) := by
  refine wa_start (by decide) rfl (Nat.le_of_ble_eq_true rfl) (lv := [(0, .ref 7), (1, .int a0), (2, .int a1), (3, .int a2)]) rfl o_X2_cutBack_0 rfl ?_
  have ua0 := Int32.toInt_lt a0
  have wa0 := Int32.le_toInt a0
  have ua1 := Int32.toInt_lt a1
  have wa1 := Int32.le_toInt a1
  have ua2 := Int32.toInt_lt a2
  have wa2 := Int32.le_toInt a2
  refine wa_aload_n (i := 0) rfl rfl ?_
  refine wa_iload_n (i := 1) rfl rfl ?_
  refine wa_puti ck_2 fl_2_52 ly_7 (fun s1 hs1 => ?_)
  have Fs1 : Sm 7 8 σ s1 := by rw [hs1]; exact Sm.si (Sm.rf 7 8 σ) _ _ (by decide) (by decide)
  refine wa_aload_n (i := 0) rfl rfl ?_
  refine wa_iload_n (i := 2) rfl rfl ?_
  refine wa_puti ck_2 fl_2_55 ly_7 (fun s2 hs2 => ?_)
  have Fs2 : Sm 7 8 σ s2 := by rw [hs2]; exact Sm.si Fs1 _ _ (by decide) (by decide)
  refine wa_aload_n (i := 0) rfl rfl ?_
  refine wa_iload_n (i := 3) rfl rfl ?_
  refine wa_puti ck_2 fl_2_58 ly_7 (fun s3 hs3 => ?_)
  have Fs3 : Sm 7 8 σ s3 := by rw [hs3]; exact Sm.si Fs2 _ _ (by decide) (by decide)
  refine wa_aload_n (i := 0) rfl rfl ?_
  refine wa_dup rfl ?_
  refine wa_geti ck_2 fl_2_61 ly_7 ?_
  refine wa_rw ((nxk_gi_si hs3 (by decide)).trans ((nxk_gi_si hs2 (by decide)).trans (nxk_gi_si hs1 (by decide)))) ?_
  refine wa_iconst (v := 1) (by decide) ?_
  refine wa_iload_n (i := 2) rfl rfl ?_
  refine wa_ishl ?_
  refine wa_top (fun v4 hv4 => ?_)
  clear hv4
  refine wa_iconst (v := 1) (by decide) ?_
  refine wa_isub ?_
  refine wa_top (fun v5 hv5 => ?_)
  have tv5 := i_subT hv5
  clear hv5
  refine wa_iand ?_
  refine wa_top (fun v6 hv6 => ?_)
  have tv6 := i_andT hv6
  clear hv6
  refine wa_puti ck_2 fl_2_61 ly_7 (fun s7 hs7 => ?_)
  have Fs7 : Sm 7 8 σ s7 := by rw [hs7]; exact Sm.si Fs3 _ _ (by decide) (by decide)
  refine wa_return (st := []) rfl rfl ?_
  exact ⟨Fs7, trivial⟩
set_option maxHeartbeats 4000000 in
theorem sp_X2_clear (G : kG9) {d : Nat} (hd : 1 ≤ d) (σ : St) : Ct G M_X2_clear d [.ref 7] σ (fun r σ' => Sm 7 8 σ σ' ∧ True) := by
  refine wa_start (by decide) rfl (Nat.le_of_ble_eq_true rfl) (lv := [(0, .ref 7)]) rfl o_X2_clear_0 rfl ?_
  refine wa_aload_n (i := 0) rfl rfl ?_
  refine wa_iconst (v := 0) (by decide) ?_
  refine wa_iconst (v := 0) (by decide) ?_
  refine wa_iconst (v := 0) (by decide) ?_
  refine wa_Vv (d9 := d - 1) [.int _, .int _, .int _] [] (sp_X2_cutBack G (d := d - 1) (by omega) σ _ _ _) (rfl) rfl rfl (zr (by omega)) mk_X2_cutBack ly_7 ml_2_44 (Nat.le_of_ble_eq_true rfl) (fun s1 hs1 => ?_)
  obtain ⟨fs1, -⟩ := hs1
  have Fs1 := Sm.tr (Sm.rf 7 8 σ) (Sm.wd fs1 (lo' := 7) (hi' := 8) (by decide) (by decide))
  refine wa_aload_n (i := 0) rfl rfl ?_
  refine wa_iconst (v := 0) (by decide) ?_
  refine wa_puti ck_2 fl_2_48 ly_7 (fun s3 hs3 => ?_)
  have Fs3 : Sm 7 8 σ s3 := by rw [hs3]; exact Sm.si Fs1 _ _ (by decide) (by decide)
  refine wa_return (st := []) rfl rfl ?_
  exact ⟨Fs3, trivial⟩
set_option maxHeartbeats 4000000 in
theorem sp_X2_isClaim (G : kG9) {d : Nat} (hd : 0 ≤ d) (σ : St) (a0 : Int32) : Ct G M_X2_isClaim d [.ref 7, .int a0] σ (fun r σ' => ∃ x : Bool, r = some (.int (bI x)) ∧ σ = σ' ∧ True) := by
  refine wa_start (by decide) rfl (Nat.le_of_ble_eq_true rfl) (lv := [(0, .ref 7), (1, .int a0)]) rfl o_X2_isClaim_0 rfl ?_
  have ua0 := Int32.toInt_lt a0
  have wa0 := Int32.le_toInt a0
  refine wa_iload_n (i := 1) rfl rfl ?_
  refine wa_if_lt o_X2_isClaim_16 (by decide) (fun h1 => ?_) (fun h1 => ?_)
  · refine wa_iconst (v := 0) (by decide) ?_
    refine wa_zreturn false (rfl) rfl rfl ?_
    exact ⟨_, rfl, rfl, trivial⟩
  · refine wa_iload_n (i := 1) rfl rfl ?_
    refine wa_aload_n (i := 0) rfl rfl ?_
    refine wa_geti ck_2 fl_2_55 ly_7 ?_
    refine wa_icmp_ge o_X2_isClaim_16 (by decide) (fun h2 => ?_) (fun h2 => ?_)
    · refine wa_iconst (v := 0) (by decide) ?_
      refine wa_zreturn false (rfl) rfl rfl ?_
      exact ⟨_, rfl, rfl, trivial⟩
    · have mh2 := nle_mx h2
      refine wa_iconst (v := 1) (by decide) ?_
      refine wa_goto o_X2_isClaim_17 (by decide) ?_
      refine wa_zreturn true (rfl) rfl rfl ?_
      exact ⟨_, rfl, rfl, trivial⟩
set_option maxHeartbeats 4000000 in
theorem sp_X2_turnOnFrom (G : kG9) {d : Nat} (hd : 0 ≤ d) (σ : St) (a0 : Int32) : Ct G M_X2_turnOnFrom d [.ref 7, .int a0] σ (fun r σ' => Sm 7 8 σ σ' ∧ True) := by
  refine wa_start (by decide) rfl (Nat.le_of_ble_eq_true rfl) (lv := [(0, .ref 7), (1, .int a0)]) rfl o_X2_turnOnFrom_0 rfl ?_
  have ua0 := Int32.toInt_lt a0
  have wa0 := Int32.le_toInt a0
  refine wa_aload_n (i := 0) rfl rfl ?_
  refine wa_dup rfl ?_
  refine wa_geti ck_2 fl_2_61 ly_7 ?_
  refine wa_iconst (v := 1) (by decide) ?_
  refine wa_aload_n (i := 0) rfl rfl ?_
  refine wa_geti ck_2 fl_2_55 ly_7 ?_
  refine wa_ishl ?_
  refine wa_top (fun v1 hv1 => ?_)
  clear hv1
  refine wa_iconst (v := 1) (by decide) ?_
  refine wa_iload_n (i := 1) rfl rfl ?_
  refine wa_ishl ?_
  refine wa_top (fun v2 hv2 => ?_)
  clear hv2
  refine wa_isub ?_
  refine wa_top (fun v3 hv3 => ?_)
  have tv3 := i_subT hv3
  clear hv3
  refine wa_ior ?_
  refine wa_top (fun v4 hv4 => ?_)
  clear hv4
  refine wa_puti ck_2 fl_2_61 ly_7 (fun s5 hs5 => ?_)
  have Fs5 : Sm 7 8 σ s5 := by rw [hs5]; exact Sm.si (Sm.rf 7 8 σ) _ _ (by decide) (by decide)
  refine wa_return (st := []) rfl rfl ?_
  exact ⟨Fs5, trivial⟩
set_option maxHeartbeats 4000000 in
theorem sp_X2_turn (G : kG9) {d : Nat} (hd : 0 ≤ d) (σ : St) (a0 : Int32) (a1 : Bool) : Ct G M_X2_turn d [.ref 7, .int a0, .int (bI a1)] σ (fun r σ' => ∃ x : Bool, r = some (.int (bI x)) ∧ Sm 7 8 σ σ' ∧ True) := by
  refine wa_start (by decide) rfl (Nat.le_of_ble_eq_true rfl) (lv := [(0, .ref 7), (1, .int a0), (2, .int (bI a1))]) rfl o_X2_turn_0 rfl ?_
  have ua0 := Int32.toInt_lt a0
  have wa0 := Int32.le_toInt a0
  refine wa_aload_n (i := 0) rfl rfl ?_
  refine wa_geti ck_2 fl_2_61 ly_7 ?_
  refine wa_istore_nD (lv' := [(3, .int (gi σ 7 13)), (0, .ref 7), (1, .int a0), (2, .int (bI a1))]) (i := 3) rfl (by decide) rfl ?_
  refine wa_aload_n (i := 0) rfl rfl ?_
  refine wa_iload_n (i := 2) rfl rfl ?_
  refine wa_if_eq o_X2_turn_21 (by decide) (fun h1 => ?_) (fun h1 => ?_)
  · replace h1 := bI_f (b := a1) (rfl) h1
    refine wa_aload_n (i := 0) rfl rfl ?_
    refine wa_geti ck_2 fl_2_61 ly_7 ?_
    refine wa_iconst (v := 1) (by decide) ?_
    refine wa_iload_n (i := 1) rfl rfl ?_
    refine wa_ishl ?_
    refine wa_top (fun v2 hv2 => ?_)
    clear hv2
    refine wa_iconst (v := (-1)) (by decide) ?_
    refine wa_ixor ?_
    refine wa_top (fun v3 hv3 => ?_)
    clear hv3
    refine wa_iand ?_
    refine wa_top (fun v4 hv4 => ?_)
    have tv4 := i_andT hv4
    clear hv4
    refine wa_puti ck_2 fl_2_61 ly_7 (fun s5 hs5 => ?_)
    have Fs5 : Sm 7 8 σ s5 := by rw [hs5]; exact Sm.si (Sm.rf 7 8 σ) _ _ (by decide) (by decide)
    refine wa_aload_n (i := 0) rfl rfl ?_
    refine wa_geti ck_2 fl_2_61 ly_7 ?_
    refine wa_rw (nxe_gi_si hs5) ?_
    refine wa_iload_n (i := 3) rfl rfl ?_
    refine wa_icmp_eq o_X2_turn_46 (by decide) (fun h6 => ?_) (fun h6 => ?_)
    · refine wa_iconst (v := 0) (by decide) ?_
      refine wa_zreturn false (rfl) rfl rfl ?_
      exact ⟨_, rfl, Fs5, trivial⟩
    · refine wa_iconst (v := 1) (by decide) ?_
      refine wa_goto o_X2_turn_47 (by decide) ?_
      refine wa_zreturn true (rfl) rfl rfl ?_
      exact ⟨_, rfl, Fs5, trivial⟩
  · replace h1 := bI_t (b := a1) (rfl) h1
    refine wa_aload_n (i := 0) rfl rfl ?_
    refine wa_geti ck_2 fl_2_61 ly_7 ?_
    refine wa_iconst (v := 1) (by decide) ?_
    refine wa_iload_n (i := 1) rfl rfl ?_
    refine wa_ishl ?_
    refine wa_top (fun v7 hv7 => ?_)
    clear hv7
    refine wa_ior ?_
    refine wa_top (fun v8 hv8 => ?_)
    clear hv8
    refine wa_goto o_X2_turn_31 (by decide) ?_
    refine wa_puti ck_2 fl_2_61 ly_7 (fun s9 hs9 => ?_)
    have Fs9 : Sm 7 8 σ s9 := by rw [hs9]; exact Sm.si (Sm.rf 7 8 σ) _ _ (by decide) (by decide)
    refine wa_aload_n (i := 0) rfl rfl ?_
    refine wa_geti ck_2 fl_2_61 ly_7 ?_
    refine wa_rw (nxe_gi_si hs9) ?_
    refine wa_iload_n (i := 3) rfl rfl ?_
    refine wa_icmp_eq o_X2_turn_46 (by decide) (fun h10 => ?_) (fun h10 => ?_)
    · refine wa_iconst (v := 0) (by decide) ?_
      refine wa_zreturn false (rfl) rfl rfl ?_
      exact ⟨_, rfl, Fs9, trivial⟩
    · refine wa_iconst (v := 1) (by decide) ?_
      refine wa_goto o_X2_turn_47 (by decide) ?_
      refine wa_zreturn true (rfl) rfl rfl ?_
      exact ⟨_, rfl, Fs9, trivial⟩
set_option maxHeartbeats 4000000 in
theorem sp_X2_addLayer (G : kG9) {d : Nat} (hd : 0 ≤ d) (σ : St) : Ct G M_X2_addLayer d [.ref 7] σ (fun r σ' => ∃ x : Bool, r = some (.int (bI x)) ∧ Sm 7 17 σ σ' ∧ True) := by
  refine wa_start (by decide) rfl (Nat.le_of_ble_eq_true rfl) (lv := [(0, .ref 7)]) rfl o_X2_addLayer_0 rfl ?_
  refine wa_aload_n (i := 0) rfl rfl ?_
  refine wa_geti ck_2 fl_2_48 ly_7 ?_
  refine wa_if_lt o_X2_addLayer_16 (by decide) (fun h1 => ?_) (fun h1 => ?_)
  · refine wa_iconst (v := 0) (by decide) ?_
    refine wa_zreturn false (rfl) rfl rfl ?_
    exact ⟨_, rfl, (Sm.rf 7 17 σ), trivial⟩
  · refine wa_aload_n (i := 0) rfl rfl ?_
    refine wa_geti ck_2 fl_2_48 ly_7 ?_
    refine wa_bipush (v := 8) (by decide) ?_
    refine wa_icmp_lt o_X2_addLayer_18 (by decide) (fun h2 => ?_) (fun h2 => ?_)
    · refine wa_aload_n (i := 0) rfl rfl ?_
      refine wa_geti ck_2 fl_2_48 ly_7 ?_
      refine wa_iconst (v := 4) (by decide) ?_
      refine wa_imul ?_
      refine wa_top (fun v3 hv3 => ?_)
      have tv3 := i_mulT hv3
      clear hv3
      refine wa_istore_nD (lv' := [(1, .int v3), (0, .ref 7)]) (i := 1) rfl (by decide) rfl ?_
      refine wa_aload_n (i := 0) rfl rfl ?_
      refine wa_getr ck_2 fl_2_37 ly_7 rf_7_8 ?_
      refine wa_iload_n (i := 1) rfl rfl ?_
      refine wa_aload_n (i := 0) rfl rfl ?_
      refine wa_geti ck_2 fl_2_52 ly_7 ?_
      refine wa_iast ly_16 (by ((try simp only [vp_in_iff, Int32.lt_iff_toInt_lt, Int32.le_iff_toInt_le, ← Int32.toInt_inj, Int32.reduceToInt, n_1, n_2, n_8, Int32.toNatClampNeg, Int64.lt_iff_toInt_lt, Int64.le_iff_toInt_le, ← Int64.toInt_inj, Int64.reduceToInt, Int32.toInt_toInt64, lg_cmp_ge, lg_cmp_le, lg_cmp_gt, lg_cmp_lt, lg_cmp_eq, Bool.false_eq_true, Bool.true_eq_false, reduceCtorEq, false_iff, true_iff, iff_true, iff_false, and_true, true_and, and_false, false_and, reduceIte, ite_true, ite_false, eq_self] at *)) <;> omega) (fun s4 hs4 => ?_)
      have Fs4 : Sm 7 17 σ s4 := by rw [hs4]; exact Sm.si (Sm.rf 7 17 σ) _ _ (by decide) (by decide)
      refine wa_aload_n (i := 0) rfl rfl ?_
      refine wa_getr ck_2 fl_2_37 ly_7 rf_7_8 ?_
      refine wa_iload_n (i := 1) rfl rfl ?_
      refine wa_iconst (v := 1) (by decide) ?_
      refine wa_iadd ?_
      refine wa_top (fun v5 hv5 => ?_)
      have tv5 := i_addT hv5
      clear hv5
      refine wa_aload_n (i := 0) rfl rfl ?_
      refine wa_geti ck_2 fl_2_55 ly_7 ?_
      refine wa_rw (nxq_gi_si hs4 (by decide)) ?_
      refine wa_iast ly_16 (by ((try simp only [vp_in_iff, Int32.lt_iff_toInt_lt, Int32.le_iff_toInt_le, ← Int32.toInt_inj, Int32.reduceToInt, n_1, n_2, n_8, Int32.toNatClampNeg, Int64.lt_iff_toInt_lt, Int64.le_iff_toInt_le, ← Int64.toInt_inj, Int64.reduceToInt, Int32.toInt_toInt64, lg_cmp_ge, lg_cmp_le, lg_cmp_gt, lg_cmp_lt, lg_cmp_eq, Bool.false_eq_true, Bool.true_eq_false, reduceCtorEq, false_iff, true_iff, iff_true, iff_false, and_true, true_and, and_false, false_and, reduceIte, ite_true, ite_false, eq_self] at *)) <;> omega) (fun s6 hs6 => ?_)
      have Fs6 : Sm 7 17 σ s6 := by rw [hs6]; exact Sm.si Fs4 _ _ (by decide) (by decide)
      refine wa_aload_n (i := 0) rfl rfl ?_
      refine wa_getr ck_2 fl_2_37 ly_7 rf_7_8 ?_
      refine wa_iload_n (i := 1) rfl rfl ?_
      refine wa_iconst (v := 2) (by decide) ?_
      refine wa_iadd ?_
      refine wa_top (fun v7 hv7 => ?_)
      have tv7 := i_addT hv7
      clear hv7
      refine wa_aload_n (i := 0) rfl rfl ?_
      refine wa_geti ck_2 fl_2_58 ly_7 ?_
      refine wa_rw ((nxq_gi_si hs6 (by decide)).trans (nxq_gi_si hs4 (by decide))) ?_
      refine wa_iast ly_16 (by ((try simp only [vp_in_iff, Int32.lt_iff_toInt_lt, Int32.le_iff_toInt_le, ← Int32.toInt_inj, Int32.reduceToInt, n_1, n_2, n_8, Int32.toNatClampNeg, Int64.lt_iff_toInt_lt, Int64.le_iff_toInt_le, ← Int64.toInt_inj, Int64.reduceToInt, Int32.toInt_toInt64, lg_cmp_ge, lg_cmp_le, lg_cmp_gt, lg_cmp_lt, lg_cmp_eq, Bool.false_eq_true, Bool.true_eq_false, reduceCtorEq, false_iff, true_iff, iff_true, iff_false, and_true, true_and, and_false, false_and, reduceIte, ite_true, ite_false, eq_self] at *)) <;> omega) (fun s8 hs8 => ?_)
      have Fs8 : Sm 7 17 σ s8 := by rw [hs8]; exact Sm.si Fs6 _ _ (by decide) (by decide)
      refine wa_aload_n (i := 0) rfl rfl ?_
      refine wa_getr ck_2 fl_2_37 ly_7 rf_7_8 ?_
      refine wa_iload_n (i := 1) rfl rfl ?_
      refine wa_iconst (v := 3) (by decide) ?_
      refine wa_iadd ?_
      refine wa_top (fun v9 hv9 => ?_)
      have tv9 := i_addT hv9
      clear hv9
      refine wa_aload_n (i := 0) rfl rfl ?_
      refine wa_geti ck_2 fl_2_61 ly_7 ?_
      refine wa_rw ((nxq_gi_si hs8 (by decide)).trans ((nxq_gi_si hs6 (by decide)).trans (nxq_gi_si hs4 (by decide)))) ?_
      refine wa_iast ly_16 (by ((try simp only [vp_in_iff, Int32.lt_iff_toInt_lt, Int32.le_iff_toInt_le, ← Int32.toInt_inj, Int32.reduceToInt, n_1, n_2, n_8, Int32.toNatClampNeg, Int64.lt_iff_toInt_lt, Int64.le_iff_toInt_le, ← Int64.toInt_inj, Int64.reduceToInt, Int32.toInt_toInt64, lg_cmp_ge, lg_cmp_le, lg_cmp_gt, lg_cmp_lt, lg_cmp_eq, Bool.false_eq_true, Bool.true_eq_false, reduceCtorEq, false_iff, true_iff, iff_true, iff_false, and_true, true_and, and_false, false_and, reduceIte, ite_true, ite_false, eq_self] at *)) <;> omega) (fun s10 hs10 => ?_)
      have Fs10 : Sm 7 17 σ s10 := by rw [hs10]; exact Sm.si Fs8 _ _ (by decide) (by decide)
      refine wa_aload_n (i := 0) rfl rfl ?_
      refine wa_dup rfl ?_
      refine wa_geti ck_2 fl_2_48 ly_7 ?_
      refine wa_rw ((nxq_gi_si hs10 (by decide)).trans ((nxq_gi_si hs8 (by decide)).trans ((nxq_gi_si hs6 (by decide)).trans (nxq_gi_si hs4 (by decide))))) ?_
      refine wa_iconst (v := 1) (by decide) ?_
      refine wa_iadd ?_
      refine wa_top (fun v11 hv11 => ?_)
      have tv11 := i_addT hv11
      clear hv11
      refine wa_puti ck_2 fl_2_48 ly_7 (fun s12 hs12 => ?_)
      have Fs12 : Sm 7 17 σ s12 := by rw [hs12]; exact Sm.si Fs10 _ _ (by decide) (by decide)
      refine wa_iconst (v := 1) (by decide) ?_
      refine wa_zreturn true (rfl) rfl rfl ?_
      exact ⟨_, rfl, Fs12, trivial⟩
    · refine wa_iconst (v := 0) (by decide) ?_
      refine wa_zreturn false (rfl) rfl rfl ?_
      exact ⟨_, rfl, (Sm.rf 7 17 σ), trivial⟩
set_option maxHeartbeats 4000000 in
theorem sp_X2_leaveLayer (G : kG9) {d : Nat} (hd : 1 ≤ d) (σ : St) : Ct G M_X2_leaveLayer d [.ref 7] σ (fun r σ' => ∃ x : Bool, r = some (.int (bI x)) ∧ Sm 7 8 σ σ' ∧ True) := by
  refine wa_start (by decide) rfl (Nat.le_of_ble_eq_true rfl) (lv := [(0, .ref 7)]) rfl o_X2_leaveLayer_0 rfl ?_
  refine wa_aload_n (i := 0) rfl rfl ?_
  refine wa_geti ck_2 fl_2_48 ly_7 ?_
  refine wa_if_le o_X2_leaveLayer_16 (by decide) (fun h1 => ?_) (fun h1 => ?_)
  · refine wa_iconst (v := 0) (by decide) ?_
    refine wa_zreturn false (rfl) rfl rfl ?_
    exact ⟨_, rfl, (Sm.rf 7 8 σ), trivial⟩
  · refine wa_aload_n (i := 0) rfl rfl ?_
    refine wa_geti ck_2 fl_2_48 ly_7 ?_
    refine wa_bipush (v := 8) (by decide) ?_
    refine wa_icmp_le o_X2_leaveLayer_18 (by decide) (fun h2 => ?_) (fun h2 => ?_)
    · refine wa_aload_n (i := 0) rfl rfl ?_
      refine wa_dup rfl ?_
      refine wa_geti ck_2 fl_2_48 ly_7 ?_
      refine wa_iconst (v := 1) (by decide) ?_
      refine wa_isub ?_
      refine wa_top (fun v3 hv3 => ?_)
      have tv3 := i_subT hv3
      clear hv3
      refine wa_puti ck_2 fl_2_48 ly_7 (fun s4 hs4 => ?_)
      have Fs4 : Sm 7 8 σ s4 := by rw [hs4]; exact Sm.si (Sm.rf 7 8 σ) _ _ (by decide) (by decide)
      refine wa_aload_n (i := 0) rfl rfl ?_
      refine wa_geti ck_2 fl_2_48 ly_7 ?_
      refine wa_rw (nxe_gi_si hs4) ?_
      refine wa_iconst (v := 4) (by decide) ?_
      refine wa_imul ?_
      refine wa_top (fun v5 hv5 => ?_)
      have tv5 := i_mulT hv5
      clear hv5
      refine wa_istore_nD (lv' := [(1, .int v5), (0, .ref 7)]) (i := 1) rfl (by decide) rfl ?_
      refine wa_aload_n (i := 0) rfl rfl ?_
      refine wa_aload_n (i := 0) rfl rfl ?_
      refine wa_getr ck_2 fl_2_37 ly_7 rf_7_8 ?_
      refine wa_iload_n (i := 1) rfl rfl ?_
      refine wa_iald ly_16 (by ((try simp only [vp_in_iff, Int32.lt_iff_toInt_lt, Int32.le_iff_toInt_le, ← Int32.toInt_inj, Int32.reduceToInt, n_1, n_2, n_8, Int32.toNatClampNeg, Int64.lt_iff_toInt_lt, Int64.le_iff_toInt_le, ← Int64.toInt_inj, Int64.reduceToInt, Int32.toInt_toInt64, lg_cmp_ge, lg_cmp_le, lg_cmp_gt, lg_cmp_lt, lg_cmp_eq, Bool.false_eq_true, Bool.true_eq_false, reduceCtorEq, false_iff, true_iff, iff_true, iff_false, and_true, true_and, and_false, false_and, reduceIte, ite_true, ite_false, eq_self] at *)) <;> omega) ?_
      refine wa_aload_n (i := 0) rfl rfl ?_
      refine wa_getr ck_2 fl_2_37 ly_7 rf_7_8 ?_
      refine wa_iload_n (i := 1) rfl rfl ?_
      refine wa_iconst (v := 1) (by decide) ?_
      refine wa_iadd ?_
      refine wa_top (fun v6 hv6 => ?_)
      have tv6 := i_addT hv6
      clear hv6
      refine wa_iald ly_16 (by ((try simp only [vp_in_iff, Int32.lt_iff_toInt_lt, Int32.le_iff_toInt_le, ← Int32.toInt_inj, Int32.reduceToInt, n_1, n_2, n_8, Int32.toNatClampNeg, Int64.lt_iff_toInt_lt, Int64.le_iff_toInt_le, ← Int64.toInt_inj, Int64.reduceToInt, Int32.toInt_toInt64, lg_cmp_ge, lg_cmp_le, lg_cmp_gt, lg_cmp_lt, lg_cmp_eq, Bool.false_eq_true, Bool.true_eq_false, reduceCtorEq, false_iff, true_iff, iff_true, iff_false, and_true, true_and, and_false, false_and, reduceIte, ite_true, ite_false, eq_self] at *)) <;> omega) ?_
      refine wa_aload_n (i := 0) rfl rfl ?_
      refine wa_getr ck_2 fl_2_37 ly_7 rf_7_8 ?_
      refine wa_iload_n (i := 1) rfl rfl ?_
      refine wa_iconst (v := 2) (by decide) ?_
      refine wa_iadd ?_
      refine wa_top (fun v7 hv7 => ?_)
      have tv7 := i_addT hv7
      clear hv7
      refine wa_iald ly_16 (by ((try simp only [vp_in_iff, Int32.lt_iff_toInt_lt, Int32.le_iff_toInt_le, ← Int32.toInt_inj, Int32.reduceToInt, n_1, n_2, n_8, Int32.toNatClampNeg, Int64.lt_iff_toInt_lt, Int64.le_iff_toInt_le, ← Int64.toInt_inj, Int64.reduceToInt, Int32.toInt_toInt64, lg_cmp_ge, lg_cmp_le, lg_cmp_gt, lg_cmp_lt, lg_cmp_eq, Bool.false_eq_true, Bool.true_eq_false, reduceCtorEq, false_iff, true_iff, iff_true, iff_false, and_true, true_and, and_false, false_and, reduceIte, ite_true, ite_false, eq_self] at *)) <;> omega) ?_
      refine wa_Vv (d9 := d - 1) [.int _, .int _, .int _] [] (sp_X2_cutBack G (d := d - 1) (by omega) s4 _ _ _) (rfl) rfl rfl (zr (by omega)) mk_X2_cutBack ly_7 ml_2_44 (Nat.le_of_ble_eq_true rfl) (fun s8 hs8 => ?_)
      obtain ⟨fs8, -⟩ := hs8
      have Fs8 := Sm.tr Fs4 (Sm.wd fs8 (lo' := 7) (hi' := 8) (by decide) (by decide))
      refine wa_aload_n (i := 0) rfl rfl ?_
      refine wa_aload_n (i := 0) rfl rfl ?_
      refine wa_getr ck_2 fl_2_37 ly_7 rf_7_8 ?_
      refine wa_iload_n (i := 1) rfl rfl ?_
      refine wa_iconst (v := 3) (by decide) ?_
      refine wa_iadd ?_
      refine wa_top (fun v10 hv10 => ?_)
      have tv10 := i_addT hv10
      clear hv10
      refine wa_iald ly_16 (by ((try simp only [vp_in_iff, Int32.lt_iff_toInt_lt, Int32.le_iff_toInt_le, ← Int32.toInt_inj, Int32.reduceToInt, n_1, n_2, n_8, Int32.toNatClampNeg, Int64.lt_iff_toInt_lt, Int64.le_iff_toInt_le, ← Int64.toInt_inj, Int64.reduceToInt, Int32.toInt_toInt64, lg_cmp_ge, lg_cmp_le, lg_cmp_gt, lg_cmp_lt, lg_cmp_eq, Bool.false_eq_true, Bool.true_eq_false, reduceCtorEq, false_iff, true_iff, iff_true, iff_false, and_true, true_and, and_false, false_and, reduceIte, ite_true, ite_false, eq_self] at *)) <;> omega) ?_
      refine wa_puti ck_2 fl_2_61 ly_7 (fun s11 hs11 => ?_)
      have Fs11 : Sm 7 8 σ s11 := by rw [hs11]; exact Sm.si Fs8 _ _ (by decide) (by decide)
      refine wa_iconst (v := 1) (by decide) ?_
      refine wa_zreturn true (rfl) rfl rfl ?_
      exact ⟨_, rfl, Fs11, trivial⟩
    · refine wa_iconst (v := 0) (by decide) ?_
      refine wa_zreturn false (rfl) rfl rfl ?_
      exact ⟨_, rfl, (Sm.rf 7 8 σ), trivial⟩
set_option maxHeartbeats 4000000 in
theorem sp_X2_variableOf (G : kG9) {d : Nat} (hd : 0 ≤ d) (σ : St) (a0 : Int64) : Ct G M_X2_variableOf d [.ref 7, .long a0] σ (fun r σ' => ∃ x : Int32, r = some (.int x) ∧ σ = σ' ∧ True) := by
  refine wa_start (by decide) rfl (Nat.le_of_ble_eq_true rfl) (lv := [(0, .ref 7), (1, .long a0)]) rfl o_X2_variableOf_0 rfl ?_
  refine wa_iconst (v := 0) (by decide) ?_
  refine wa_istore_nD (lv' := [(3, .int 0), (0, .ref 7), (1, .long a0)]) (i := 3) rfl (by decide) rfl ?_
  refine wa_pick [1, 2, 0] rfl ?_
  have hi2 : ∀ (n9_2 : Nat) (l3 : Int32), ((0 ≤ l3.toInt) ∧ (True)) → (2147483647 - l3.toInt).toNat = n9_2 → WA G M_X2_variableOf (ZM G M_X2_variableOf d (fun r σ' => ∃ x : Int32, r = some (.int x) ∧ σ = σ' ∧ True)) B_X2_variableOf_2 [(0, .ref 7), (1, .long a0), (3, .int l3)] [] σ := by
    intro n9_2
    induction n9_2 using Nat.strongRecOn with
    | _ n9_2 ih1 =>
      intro l3  i9 m9_2
      obtain ⟨jhi2_0, -⟩ := i9
      have ul3 := Int32.toInt_lt l3
      have wl3 := Int32.le_toInt l3
      refine wa_iload_n (i := 3) rfl rfl ?_
      refine wa_aload_n (i := 0) rfl rfl ?_
      refine wa_geti ck_2 fl_2_52 ly_7 ?_
      refine wa_icmp_ge o_X2_variableOf_34 (by decide) (fun h3 => ?_) (fun h3 => ?_)
      · refine wa_iconst (v := (-1)) (by decide) ?_
        refine wa_ireturn rfl rfl ?_
        exact ⟨_, rfl, rfl, trivial⟩
      · have mh3 := nle_mx h3
        refine wa_iload_n (i := 3) rfl rfl ?_
        refine wa_iconst (v := 4) (by decide) ?_
        refine wa_icmp_ge o_X2_variableOf_34 (by decide) (fun h4 => ?_) (fun h4 => ?_)
        · refine wa_iconst (v := (-1)) (by decide) ?_
          refine wa_ireturn rfl rfl ?_
          exact ⟨_, rfl, rfl, trivial⟩
        · have mh4 := nle_mx h4
          refine wa_aload_n (i := 0) rfl rfl ?_
          refine wa_getr ck_2 fl_2_9 ly_7 rf_7_0 ?_
          refine wa_iload_n (i := 3) rfl rfl ?_
          refine wa_lald ly_8 (by ((try simp only [vp_in_iff, Int32.lt_iff_toInt_lt, Int32.le_iff_toInt_le, ← Int32.toInt_inj, Int32.reduceToInt, n_1, n_2, n_8, Int32.toNatClampNeg, Int64.lt_iff_toInt_lt, Int64.le_iff_toInt_le, ← Int64.toInt_inj, Int64.reduceToInt, Int32.toInt_toInt64, lg_cmp_ge, lg_cmp_le, lg_cmp_gt, lg_cmp_lt, lg_cmp_eq, Bool.false_eq_true, Bool.true_eq_false, reduceCtorEq, false_iff, true_iff, iff_true, iff_false, and_true, true_and, and_false, false_and, reduceIte, ite_true, ite_false, eq_self] at *)) <;> omega) ?_
          refine wa_lload_n (i := 1) rfl rfl ?_
          refine wa_lcmp ?_
          refine wa_top (fun v5 hv5 => ?_)
          have tv5 := i_cmpT hv5
          clear hv5
          refine wa_if_ne o_X2_variableOf_28 (by decide) (fun h6 => ?_) (fun h6 => ?_)
          · refine wa_iinc (v := (1)) (lv' := fun y7 => [(3, .int y7), (0, .ref 7), (1, .long a0)]) (by decide) rfl (by decide) (fun _ => rfl) (fun y7 hy7 => ?_)
            have ty7 := i_addT hy7.symm
            clear hy7
            refine wa_goto o_X2_variableOf_2 (by decide) ?_
            refine wa_pick [1, 2, 0] rfl ?_
            exact ih1 _ (by ((try simp only [vp_in_iff, Int32.lt_iff_toInt_lt, Int32.le_iff_toInt_le, ← Int32.toInt_inj, Int32.reduceToInt, n_1, n_2, n_8, Int32.toNatClampNeg, Int64.lt_iff_toInt_lt, Int64.le_iff_toInt_le, ← Int64.toInt_inj, Int64.reduceToInt, Int32.toInt_toInt64, lg_cmp_ge, lg_cmp_le, lg_cmp_gt, lg_cmp_lt, lg_cmp_eq, Bool.false_eq_true, Bool.true_eq_false, reduceCtorEq, false_iff, true_iff, iff_true, iff_false, and_true, true_and, and_false, false_and, reduceIte, ite_true, ite_false, eq_self] at *)) <;> omega) _ ⟨(by ((try simp only [vp_in_iff, Int32.lt_iff_toInt_lt, Int32.le_iff_toInt_le, ← Int32.toInt_inj, Int32.reduceToInt, n_1, n_2, n_8, Int32.toNatClampNeg, Int64.lt_iff_toInt_lt, Int64.le_iff_toInt_le, ← Int64.toInt_inj, Int64.reduceToInt, Int32.toInt_toInt64, lg_cmp_ge, lg_cmp_le, lg_cmp_gt, lg_cmp_lt, lg_cmp_eq, Bool.false_eq_true, Bool.true_eq_false, reduceCtorEq, false_iff, true_iff, iff_true, iff_false, and_true, true_and, and_false, false_and, reduceIte, ite_true, ite_false, eq_self] at *)) <;> omega), trivial⟩ rfl
          · refine wa_iload_n (i := 3) rfl rfl ?_
            refine wa_ireturn rfl rfl ?_
            exact ⟨_, rfl, rfl, trivial⟩
  exact hi2 _ _ ⟨(by ((try simp only [vp_in_iff, Int32.lt_iff_toInt_lt, Int32.le_iff_toInt_le, ← Int32.toInt_inj, Int32.reduceToInt, n_1, n_2, n_8, Int32.toNatClampNeg, Int64.lt_iff_toInt_lt, Int64.le_iff_toInt_le, ← Int64.toInt_inj, Int64.reduceToInt, Int32.toInt_toInt64, lg_cmp_ge, lg_cmp_le, lg_cmp_gt, lg_cmp_lt, lg_cmp_eq, Bool.false_eq_true, Bool.true_eq_false, reduceCtorEq, false_iff, true_iff, iff_true, iff_false, and_true, true_and, and_false, false_and, reduceIte, ite_true, ite_false, eq_self] at *)) <;> omega), trivial⟩ rfl
set_option maxHeartbeats 4000000 in
theorem sp_X2_claimOf (G : kG9) {d : Nat} (hd : 0 ≤ d) (σ : St) (a0 : Int64) : Ct G M_X2_claimOf d [.ref 7, .long a0] σ (fun r σ' => ∃ x : Int32, r = some (.int x) ∧ σ = σ' ∧ True) := by
  refine wa_start (by decide) rfl (Nat.le_of_ble_eq_true rfl) (lv := [(0, .ref 7), (1, .long a0)]) rfl o_X2_claimOf_0 rfl ?_
  refine wa_iconst (v := 0) (by decide) ?_
  refine wa_istore_nD (lv' := [(3, .int 0), (0, .ref 7), (1, .long a0)]) (i := 3) rfl (by decide) rfl ?_
  refine wa_pick [1, 2, 0] rfl ?_
  have hi2 : ∀ (n9_2 : Nat) (l3 : Int32), ((0 ≤ l3.toInt) ∧ (True)) → (2147483647 - l3.toInt).toNat = n9_2 → WA G M_X2_claimOf (ZM G M_X2_claimOf d (fun r σ' => ∃ x : Int32, r = some (.int x) ∧ σ = σ' ∧ True)) B_X2_claimOf_2 [(0, .ref 7), (1, .long a0), (3, .int l3)] [] σ := by
    intro n9_2
    induction n9_2 using Nat.strongRecOn with
    | _ n9_2 ih1 =>
      intro l3  i9 m9_2
      obtain ⟨jhi2_0, -⟩ := i9
      have ul3 := Int32.toInt_lt l3
      have wl3 := Int32.le_toInt l3
      refine wa_iload_n (i := 3) rfl rfl ?_
      refine wa_aload_n (i := 0) rfl rfl ?_
      refine wa_geti ck_2 fl_2_55 ly_7 ?_
      refine wa_icmp_ge o_X2_claimOf_35 (by decide) (fun h3 => ?_) (fun h3 => ?_)
      · refine wa_iconst (v := (-1)) (by decide) ?_
        refine wa_ireturn rfl rfl ?_
        exact ⟨_, rfl, rfl, trivial⟩
      · have mh3 := nle_mx h3
        refine wa_iload_n (i := 3) rfl rfl ?_
        refine wa_bipush (v := 24) (by decide) ?_
        refine wa_icmp_ge o_X2_claimOf_35 (by decide) (fun h4 => ?_) (fun h4 => ?_)
        · refine wa_iconst (v := (-1)) (by decide) ?_
          refine wa_ireturn rfl rfl ?_
          exact ⟨_, rfl, rfl, trivial⟩
        · have mh4 := nle_mx h4
          refine wa_aload_n (i := 0) rfl rfl ?_
          refine wa_getr ck_2 fl_2_15 ly_7 rf_7_1 ?_
          refine wa_iload_n (i := 3) rfl rfl ?_
          refine wa_lald ly_9 (by ((try simp only [vp_in_iff, Int32.lt_iff_toInt_lt, Int32.le_iff_toInt_le, ← Int32.toInt_inj, Int32.reduceToInt, n_1, n_2, n_8, Int32.toNatClampNeg, Int64.lt_iff_toInt_lt, Int64.le_iff_toInt_le, ← Int64.toInt_inj, Int64.reduceToInt, Int32.toInt_toInt64, lg_cmp_ge, lg_cmp_le, lg_cmp_gt, lg_cmp_lt, lg_cmp_eq, Bool.false_eq_true, Bool.true_eq_false, reduceCtorEq, false_iff, true_iff, iff_true, iff_false, and_true, true_and, and_false, false_and, reduceIte, ite_true, ite_false, eq_self] at *)) <;> omega) ?_
          refine wa_lload_n (i := 1) rfl rfl ?_
          refine wa_lcmp ?_
          refine wa_top (fun v5 hv5 => ?_)
          have tv5 := i_cmpT hv5
          clear hv5
          refine wa_if_ne o_X2_claimOf_29 (by decide) (fun h6 => ?_) (fun h6 => ?_)
          · refine wa_iinc (v := (1)) (lv' := fun y7 => [(3, .int y7), (0, .ref 7), (1, .long a0)]) (by decide) rfl (by decide) (fun _ => rfl) (fun y7 hy7 => ?_)
            have ty7 := i_addT hy7.symm
            clear hy7
            refine wa_goto o_X2_claimOf_2 (by decide) ?_
            refine wa_pick [1, 2, 0] rfl ?_
            exact ih1 _ (by ((try simp only [vp_in_iff, Int32.lt_iff_toInt_lt, Int32.le_iff_toInt_le, ← Int32.toInt_inj, Int32.reduceToInt, n_1, n_2, n_8, Int32.toNatClampNeg, Int64.lt_iff_toInt_lt, Int64.le_iff_toInt_le, ← Int64.toInt_inj, Int64.reduceToInt, Int32.toInt_toInt64, lg_cmp_ge, lg_cmp_le, lg_cmp_gt, lg_cmp_lt, lg_cmp_eq, Bool.false_eq_true, Bool.true_eq_false, reduceCtorEq, false_iff, true_iff, iff_true, iff_false, and_true, true_and, and_false, false_and, reduceIte, ite_true, ite_false, eq_self] at *)) <;> omega) _ ⟨(by ((try simp only [vp_in_iff, Int32.lt_iff_toInt_lt, Int32.le_iff_toInt_le, ← Int32.toInt_inj, Int32.reduceToInt, n_1, n_2, n_8, Int32.toNatClampNeg, Int64.lt_iff_toInt_lt, Int64.le_iff_toInt_le, ← Int64.toInt_inj, Int64.reduceToInt, Int32.toInt_toInt64, lg_cmp_ge, lg_cmp_le, lg_cmp_gt, lg_cmp_lt, lg_cmp_eq, Bool.false_eq_true, Bool.true_eq_false, reduceCtorEq, false_iff, true_iff, iff_true, iff_false, and_true, true_and, and_false, false_and, reduceIte, ite_true, ite_false, eq_self] at *)) <;> omega), trivial⟩ rfl
          · refine wa_iload_n (i := 3) rfl rfl ?_
            refine wa_ireturn rfl rfl ?_
            exact ⟨_, rfl, rfl, trivial⟩
  exact hi2 _ _ ⟨(by ((try simp only [vp_in_iff, Int32.lt_iff_toInt_lt, Int32.le_iff_toInt_le, ← Int32.toInt_inj, Int32.reduceToInt, n_1, n_2, n_8, Int32.toNatClampNeg, Int64.lt_iff_toInt_lt, Int64.le_iff_toInt_le, ← Int64.toInt_inj, Int64.reduceToInt, Int32.toInt_toInt64, lg_cmp_ge, lg_cmp_le, lg_cmp_gt, lg_cmp_lt, lg_cmp_eq, Bool.false_eq_true, Bool.true_eq_false, reduceCtorEq, false_iff, true_iff, iff_true, iff_false, and_true, true_and, and_false, false_and, reduceIte, ite_true, ite_false, eq_self] at *)) <;> omega), trivial⟩ rfl
set_option maxHeartbeats 4000000 in
theorem sp_X2_addVariable (G : kG9) {d : Nat} (hd : 0 ≤ d) (σ : St) (a0 : Int64) : Ct G M_X2_addVariable d [.ref 7, .long a0] σ (fun r σ' => ∃ x : Bool, r = some (.int (bI x)) ∧ Sm 7 9 σ σ' ∧ True) := by
  refine wa_start (by decide) rfl (Nat.le_of_ble_eq_true rfl) (lv := [(0, .ref 7), (1, .long a0)]) rfl o_X2_addVariable_0 rfl ?_
  refine wa_aload_n (i := 0) rfl rfl ?_
  refine wa_geti ck_2 fl_2_52 ly_7 ?_
  refine wa_if_lt o_X2_addVariable_15 (by decide) (fun h1 => ?_) (fun h1 => ?_)
  · refine wa_iconst (v := 0) (by decide) ?_
    refine wa_zreturn false (rfl) rfl rfl ?_
    exact ⟨_, rfl, (Sm.rf 7 9 σ), trivial⟩
  · refine wa_aload_n (i := 0) rfl rfl ?_
    refine wa_geti ck_2 fl_2_52 ly_7 ?_
    refine wa_iconst (v := 4) (by decide) ?_
    refine wa_icmp_lt o_X2_addVariable_17 (by decide) (fun h2 => ?_) (fun h2 => ?_)
    · refine wa_aload_n (i := 0) rfl rfl ?_
      refine wa_getr ck_2 fl_2_9 ly_7 rf_7_0 ?_
      refine wa_aload_n (i := 0) rfl rfl ?_
      refine wa_geti ck_2 fl_2_52 ly_7 ?_
      refine wa_lload_n (i := 1) rfl rfl ?_
      refine wa_last ly_8 (by ((try simp only [vp_in_iff, Int32.lt_iff_toInt_lt, Int32.le_iff_toInt_le, ← Int32.toInt_inj, Int32.reduceToInt, n_1, n_2, n_8, Int32.toNatClampNeg, Int64.lt_iff_toInt_lt, Int64.le_iff_toInt_le, ← Int64.toInt_inj, Int64.reduceToInt, Int32.toInt_toInt64, lg_cmp_ge, lg_cmp_le, lg_cmp_gt, lg_cmp_lt, lg_cmp_eq, Bool.false_eq_true, Bool.true_eq_false, reduceCtorEq, false_iff, true_iff, iff_true, iff_false, and_true, true_and, and_false, false_and, reduceIte, ite_true, ite_false, eq_self] at *)) <;> omega) (fun s3 hs3 => ?_)
      have Fs3 : Sm 7 9 σ s3 := by rw [hs3]; exact Sm.sl (Sm.rf 7 9 σ) _ _ (by decide) (by decide)
      refine wa_aload_n (i := 0) rfl rfl ?_
      refine wa_dup rfl ?_
      refine wa_geti ck_2 fl_2_52 ly_7 ?_
      refine wa_rw (nx_gi_sl hs3) ?_
      refine wa_iconst (v := 1) (by decide) ?_
      refine wa_iadd ?_
      refine wa_top (fun v4 hv4 => ?_)
      have tv4 := i_addT hv4
      clear hv4
      refine wa_puti ck_2 fl_2_52 ly_7 (fun s5 hs5 => ?_)
      have Fs5 : Sm 7 9 σ s5 := by rw [hs5]; exact Sm.si Fs3 _ _ (by decide) (by decide)
      refine wa_iconst (v := 1) (by decide) ?_
      refine wa_zreturn true (rfl) rfl rfl ?_
      exact ⟨_, rfl, Fs5, trivial⟩
    · refine wa_iconst (v := 0) (by decide) ?_
      refine wa_zreturn false (rfl) rfl rfl ?_
      exact ⟨_, rfl, (Sm.rf 7 9 σ), trivial⟩
set_option maxHeartbeats 4000000 in
theorem sp_X2_setFact (G : kG9) {d : Nat} (hd : 0 ≤ d) (σ : St) (a0 : Int32) (a1 : Int32) (a2 : Int32) : Ct G M_X2_setFact d [.ref 7, .int a0, .int a1, .int a2] σ (fun r σ' => Sm 13 14 σ σ' ∧ True) := by
  refine wa_start (by decide) rfl (Nat.le_of_ble_eq_true rfl) (lv := [(0, .ref 7), (1, .int a0), (2, .int a1), (3, .int a2)]) rfl o_X2_setFact_0 rfl ?_
  have ua0 := Int32.toInt_lt a0
  have wa0 := Int32.le_toInt a0
  have ua1 := Int32.toInt_lt a1
  have wa1 := Int32.le_toInt a1
  have ua2 := Int32.toInt_lt a2
  have wa2 := Int32.le_toInt a2
  refine wa_iload_n (i := 1) rfl rfl ?_
  refine wa_if_lt o_X2_setFact_32 (by decide) (fun h1 => ?_) (fun h1 => ?_)
  · refine wa_return (st := []) rfl rfl ?_
    exact ⟨(Sm.rf 13 14 σ), trivial⟩
  · refine wa_iload_n (i := 1) rfl rfl ?_
    refine wa_bipush (v := 26) (by decide) ?_
    refine wa_icmp_ge o_X2_setFact_32 (by decide) (fun h2 => ?_) (fun h2 => ?_)
    · refine wa_return (st := []) rfl rfl ?_
      exact ⟨(Sm.rf 13 14 σ), trivial⟩
    · have mh2 := nle_mx h2
      refine wa_iload_n (i := 2) rfl rfl ?_
      refine wa_if_lt o_X2_setFact_32 (by decide) (fun h3 => ?_) (fun h3 => ?_)
      · refine wa_return (st := []) rfl rfl ?_
        exact ⟨(Sm.rf 13 14 σ), trivial⟩
      · refine wa_iload_n (i := 2) rfl rfl ?_
        refine wa_bipush (v := 10) (by decide) ?_
        refine wa_icmp_ge o_X2_setFact_32 (by decide) (fun h4 => ?_) (fun h4 => ?_)
        · refine wa_return (st := []) rfl rfl ?_
          exact ⟨(Sm.rf 13 14 σ), trivial⟩
        · have mh4 := nle_mx h4
          refine wa_aload_n (i := 0) rfl rfl ?_
          refine wa_getr ck_2 fl_2_28 ly_7 rf_7_5 ?_
          refine wa_iload_n (i := 1) rfl rfl ?_
          refine wa_bipush (v := 10) (by decide) ?_
          refine wa_imul ?_
          refine wa_top (fun v5 hv5 => ?_)
          have tv5 := i_mulT hv5
          clear hv5
          refine wa_iload_n (i := 2) rfl rfl ?_
          refine wa_iadd ?_
          refine wa_top (fun v6 hv6 => ?_)
          have tv6 := i_addT hv6
          clear hv6
          refine wa_iload_n (i := 3) rfl rfl ?_
          refine wa_iast ly_13 (by ((try simp only [vp_in_iff, Int32.lt_iff_toInt_lt, Int32.le_iff_toInt_le, ← Int32.toInt_inj, Int32.reduceToInt, n_1, n_2, n_8, Int32.toNatClampNeg, Int64.lt_iff_toInt_lt, Int64.le_iff_toInt_le, ← Int64.toInt_inj, Int64.reduceToInt, Int32.toInt_toInt64, lg_cmp_ge, lg_cmp_le, lg_cmp_gt, lg_cmp_lt, lg_cmp_eq, Bool.false_eq_true, Bool.true_eq_false, reduceCtorEq, false_iff, true_iff, iff_true, iff_false, and_true, true_and, and_false, false_and, reduceIte, ite_true, ite_false, eq_self] at *)) <;> omega) (fun s7 hs7 => ?_)
          have Fs7 : Sm 13 14 σ s7 := by rw [hs7]; exact Sm.si (Sm.rf 13 14 σ) _ _ (by decide) (by decide)
          refine wa_return (st := []) rfl rfl ?_
          exact ⟨Fs7, trivial⟩
set_option maxHeartbeats 4000000 in
theorem sp_X2_addClaim (G : kG9) {d : Nat} (hd : 1 ≤ d) (σ : St) (a0 : Int64) : Ct G M_X2_addClaim d [.ref 7, .long a0] σ (fun r σ' => Sm 7 14 σ σ' ∧ True) := by
  refine wa_start (by decide) rfl (Nat.le_of_ble_eq_true rfl) (lv := [(0, .ref 7), (1, .long a0)]) rfl o_X2_addClaim_0 rfl ?_
  refine wa_aload_n (i := 0) rfl rfl ?_
  refine wa_geti ck_2 fl_2_55 ly_7 ?_
  refine wa_if_lt o_X2_addClaim_50 (by decide) (fun h1 => ?_) (fun h1 => ?_)
  · refine wa_return (st := []) rfl rfl ?_
    exact ⟨(Sm.rf 7 14 σ), trivial⟩
  · refine wa_aload_n (i := 0) rfl rfl ?_
    refine wa_geti ck_2 fl_2_55 ly_7 ?_
    refine wa_bipush (v := 24) (by decide) ?_
    refine wa_icmp_ge o_X2_addClaim_50 (by decide) (fun h2 => ?_) (fun h2 => ?_)
    · refine wa_return (st := []) rfl rfl ?_
      exact ⟨(Sm.rf 7 14 σ), trivial⟩
    · have mh2 := nle_mx h2
      refine wa_aload_n (i := 0) rfl rfl ?_
      refine wa_aload_n (i := 0) rfl rfl ?_
      refine wa_geti ck_2 fl_2_55 ly_7 ?_
      refine wa_bipush (v := 8) (by decide) ?_
      refine wa_aload_n (i := 0) rfl rfl ?_
      refine wa_geti ck_2 fl_2_48 ly_7 ?_
      refine wa_Vv (d9 := d - 1) [.int _, .int _, .int _] [] (sp_X2_setFact G (d := d - 1) (by omega) σ _ _ _) (rfl) rfl rfl (zr (by omega)) mk_X2_setFact ly_7 ml_2_64 (Nat.le_of_ble_eq_true rfl) (fun s3 hs3 => ?_)
      obtain ⟨fs3, -⟩ := hs3
      have Fs3 := Sm.tr (Sm.rf 7 14 σ) (Sm.wd fs3 (lo' := 7) (hi' := 14) (by decide) (by decide))
      refine wa_aload_n (i := 0) rfl rfl ?_
      refine wa_getr ck_2 fl_2_15 ly_7 rf_7_1 ?_
      refine wa_aload_n (i := 0) rfl rfl ?_
      refine wa_geti ck_2 fl_2_55 ly_7 ?_
      refine wa_rw (Sm.gi fs3 11 (Or.inl (by decide))) ?_
      refine wa_lload_n (i := 1) rfl rfl ?_
      refine wa_last ly_9 (by ((try simp only [vp_in_iff, Int32.lt_iff_toInt_lt, Int32.le_iff_toInt_le, ← Int32.toInt_inj, Int32.reduceToInt, n_1, n_2, n_8, Int32.toNatClampNeg, Int64.lt_iff_toInt_lt, Int64.le_iff_toInt_le, ← Int64.toInt_inj, Int64.reduceToInt, Int32.toInt_toInt64, lg_cmp_ge, lg_cmp_le, lg_cmp_gt, lg_cmp_lt, lg_cmp_eq, Bool.false_eq_true, Bool.true_eq_false, reduceCtorEq, false_iff, true_iff, iff_true, iff_false, and_true, true_and, and_false, false_and, reduceIte, ite_true, ite_false, eq_self] at *)) <;> omega) (fun s5 hs5 => ?_)
      have Fs5 : Sm 7 14 σ s5 := by rw [hs5]; exact Sm.sl Fs3 _ _ (by decide) (by decide)
      refine wa_aload_n (i := 0) rfl rfl ?_
      refine wa_dup rfl ?_
      refine wa_geti ck_2 fl_2_55 ly_7 ?_
      refine wa_rw ((nx_gi_sl hs5).trans (Sm.gi fs3 11 (Or.inl (by decide)))) ?_
      refine wa_iconst (v := 1) (by decide) ?_
      refine wa_iadd ?_
      refine wa_top (fun v6 hv6 => ?_)
      have tv6 := i_addT hv6
      clear hv6
      refine wa_puti ck_2 fl_2_55 ly_7 (fun s7 hs7 => ?_)
      have Fs7 : Sm 7 14 σ s7 := by rw [hs7]; exact Sm.si Fs5 _ _ (by decide) (by decide)
      refine wa_return (st := []) rfl rfl ?_
      exact ⟨Fs7, trivial⟩
set_option maxHeartbeats 4000000 in
theorem sp_X2_setToken (G : kG9) {d : Nat} (hd : 0 ≤ d) (σ : St) (a0 : Int32) (a1 : Int32) (a2 : Int32) : Ct G M_X2_setToken d [.ref 7, .int a0, .int a1, .int a2] σ (fun r σ' => Sm 10 11 σ σ' ∧ True) := by
  refine wa_start (by decide) rfl (Nat.le_of_ble_eq_true rfl) (lv := [(0, .ref 7), (1, .int a0), (2, .int a1), (3, .int a2)]) rfl o_X2_setToken_0 rfl ?_
  have ua0 := Int32.toInt_lt a0
  have wa0 := Int32.le_toInt a0
  have ua1 := Int32.toInt_lt a1
  have wa1 := Int32.le_toInt a1
  have ua2 := Int32.toInt_lt a2
  have wa2 := Int32.le_toInt a2
  refine wa_iload_n (i := 1) rfl rfl ?_
  refine wa_if_lt o_X2_setToken_32 (by decide) (fun h1 => ?_) (fun h1 => ?_)
  · refine wa_return (st := []) rfl rfl ?_
    exact ⟨(Sm.rf 10 11 σ), trivial⟩
  · refine wa_iload_n (i := 1) rfl rfl ?_
    refine wa_bipush (v := 26) (by decide) ?_
    refine wa_icmp_ge o_X2_setToken_32 (by decide) (fun h2 => ?_) (fun h2 => ?_)
    · refine wa_return (st := []) rfl rfl ?_
      exact ⟨(Sm.rf 10 11 σ), trivial⟩
    · have mh2 := nle_mx h2
      refine wa_iload_n (i := 2) rfl rfl ?_
      refine wa_if_lt o_X2_setToken_32 (by decide) (fun h3 => ?_) (fun h3 => ?_)
      · refine wa_return (st := []) rfl rfl ?_
        exact ⟨(Sm.rf 10 11 σ), trivial⟩
      · refine wa_iload_n (i := 2) rfl rfl ?_
        refine wa_bipush (v := 120) (by decide) ?_
        refine wa_icmp_ge o_X2_setToken_32 (by decide) (fun h4 => ?_) (fun h4 => ?_)
        · refine wa_return (st := []) rfl rfl ?_
          exact ⟨(Sm.rf 10 11 σ), trivial⟩
        · have mh4 := nle_mx h4
          refine wa_aload_n (i := 0) rfl rfl ?_
          refine wa_getr ck_2 fl_2_18 ly_7 rf_7_2 ?_
          refine wa_iload_n (i := 1) rfl rfl ?_
          refine wa_bipush (v := 120) (by decide) ?_
          refine wa_imul ?_
          refine wa_top (fun v5 hv5 => ?_)
          have tv5 := i_mulT hv5
          clear hv5
          refine wa_iload_n (i := 2) rfl rfl ?_
          refine wa_iadd ?_
          refine wa_top (fun v6 hv6 => ?_)
          have tv6 := i_addT hv6
          clear hv6
          refine wa_iload_n (i := 3) rfl rfl ?_
          refine wa_iast ly_10 (by ((try simp only [vp_in_iff, Int32.lt_iff_toInt_lt, Int32.le_iff_toInt_le, ← Int32.toInt_inj, Int32.reduceToInt, n_1, n_2, n_8, Int32.toNatClampNeg, Int64.lt_iff_toInt_lt, Int64.le_iff_toInt_le, ← Int64.toInt_inj, Int64.reduceToInt, Int32.toInt_toInt64, lg_cmp_ge, lg_cmp_le, lg_cmp_gt, lg_cmp_lt, lg_cmp_eq, Bool.false_eq_true, Bool.true_eq_false, reduceCtorEq, false_iff, true_iff, iff_true, iff_false, and_true, true_and, and_false, false_and, reduceIte, ite_true, ite_false, eq_self] at *)) <;> omega) (fun s7 hs7 => ?_)
          have Fs7 : Sm 10 11 σ s7 := by rw [hs7]; exact Sm.si (Sm.rf 10 11 σ) _ _ (by decide) (by decide)
          refine wa_return (st := []) rfl rfl ?_
          exact ⟨Fs7, trivial⟩
set_option maxHeartbeats 4000000 in
theorem sp_X2_token (G : kG9) {d : Nat} (hd : 1 ≤ d) (σ : St) (a0 : Int32) (a1 : Int32) : Ct G M_X2_token d [.ref 7, .int a0, .int a1] σ (fun r σ' => ∃ x : Int32, r = some (.int x) ∧ σ = σ' ∧ True) := by
  refine wa_start (by decide) rfl (Nat.le_of_ble_eq_true rfl) (lv := [(0, .ref 7), (1, .int a0), (2, .int a1)]) rfl o_X2_token_0 rfl ?_
  have ua0 := Int32.toInt_lt a0
  have wa0 := Int32.le_toInt a0
  have ua1 := Int32.toInt_lt a1
  have wa1 := Int32.le_toInt a1
  refine wa_iload_n (i := 1) rfl rfl ?_
  refine wa_if_lt o_X2_token_34 (by decide) (fun h1 => ?_) (fun h1 => ?_)
  · refine wa_iconst (v := 0) (by decide) ?_
    refine wa_istore_nD (lv' := [(3, .int (bI false)), (0, .ref 7), (1, .int a0), (2, .int a1)]) (i := 3) rfl (by decide) rfl ?_
    refine wa_iload_n (i := 3) rfl rfl ?_
    refine wa_if_eq o_X2_token_54 (by decide) (fun h2 => ?_) (fun h2 => ?_)
    · replace h2 := bI_f (b := false) (rfl) h2
      refine wa_iconst (v := 0) (by decide) ?_
      refine wa_ireturn rfl rfl ?_
      exact ⟨_, rfl, rfl, trivial⟩
    · replace h2 := bI_t (b := false) (rfl) h2
      refine wa_aload_n (i := 0) rfl rfl ?_
      refine wa_getr ck_2 fl_2_18 ly_7 rf_7_2 ?_
      refine wa_iload_n (i := 1) rfl rfl ?_
      refine wa_bipush (v := 120) (by decide) ?_
      refine wa_imul ?_
      refine wa_top (fun v3 hv3 => ?_)
      have tv3 := i_mulT hv3
      clear hv3
      refine wa_iload_n (i := 2) rfl rfl ?_
      refine wa_iadd ?_
      refine wa_top (fun v4 hv4 => ?_)
      have tv4 := i_addT hv4
      clear hv4
      refine wa_iald ly_10 (by ((try simp only [vp_in_iff, Int32.lt_iff_toInt_lt, Int32.le_iff_toInt_le, ← Int32.toInt_inj, Int32.reduceToInt, n_1, n_2, n_8, Int32.toNatClampNeg, Int64.lt_iff_toInt_lt, Int64.le_iff_toInt_le, ← Int64.toInt_inj, Int64.reduceToInt, Int32.toInt_toInt64, lg_cmp_ge, lg_cmp_le, lg_cmp_gt, lg_cmp_lt, lg_cmp_eq, Bool.false_eq_true, Bool.true_eq_false, reduceCtorEq, false_iff, true_iff, iff_true, iff_false, and_true, true_and, and_false, false_and, reduceIte, ite_true, ite_false, eq_self] at *)) <;> omega) ?_
      refine wa_goto o_X2_token_55 (by decide) ?_
      refine wa_ireturn rfl rfl ?_
      exact ⟨_, rfl, rfl, trivial⟩
  · refine wa_iload_n (i := 1) rfl rfl ?_
    refine wa_bipush (v := 26) (by decide) ?_
    refine wa_icmp_ge o_X2_token_34 (by decide) (fun h5 => ?_) (fun h5 => ?_)
    · refine wa_iconst (v := 0) (by decide) ?_
      refine wa_istore_nD (lv' := [(3, .int (bI false)), (0, .ref 7), (1, .int a0), (2, .int a1)]) (i := 3) rfl (by decide) rfl ?_
      refine wa_iload_n (i := 3) rfl rfl ?_
      refine wa_if_eq o_X2_token_54 (by decide) (fun h6 => ?_) (fun h6 => ?_)
      · replace h6 := bI_f (b := false) (rfl) h6
        refine wa_iconst (v := 0) (by decide) ?_
        refine wa_ireturn rfl rfl ?_
        exact ⟨_, rfl, rfl, trivial⟩
      · replace h6 := bI_t (b := false) (rfl) h6
        refine wa_aload_n (i := 0) rfl rfl ?_
        refine wa_getr ck_2 fl_2_18 ly_7 rf_7_2 ?_
        refine wa_iload_n (i := 1) rfl rfl ?_
        refine wa_bipush (v := 120) (by decide) ?_
        refine wa_imul ?_
        refine wa_top (fun v7 hv7 => ?_)
        have tv7 := i_mulT hv7
        clear hv7
        refine wa_iload_n (i := 2) rfl rfl ?_
        refine wa_iadd ?_
        refine wa_top (fun v8 hv8 => ?_)
        have tv8 := i_addT hv8
        clear hv8
        refine wa_iald ly_10 (by ((try simp only [vp_in_iff, Int32.lt_iff_toInt_lt, Int32.le_iff_toInt_le, ← Int32.toInt_inj, Int32.reduceToInt, n_1, n_2, n_8, Int32.toNatClampNeg, Int64.lt_iff_toInt_lt, Int64.le_iff_toInt_le, ← Int64.toInt_inj, Int64.reduceToInt, Int32.toInt_toInt64, lg_cmp_ge, lg_cmp_le, lg_cmp_gt, lg_cmp_lt, lg_cmp_eq, Bool.false_eq_true, Bool.true_eq_false, reduceCtorEq, false_iff, true_iff, iff_true, iff_false, and_true, true_and, and_false, false_and, reduceIte, ite_true, ite_false, eq_self] at *)) <;> omega) ?_
        refine wa_goto o_X2_token_55 (by decide) ?_
        refine wa_ireturn rfl rfl ?_
        exact ⟨_, rfl, rfl, trivial⟩
    · have mh5 := nle_mx h5
      refine wa_iload_n (i := 2) rfl rfl ?_
      refine wa_if_lt o_X2_token_34 (by decide) (fun h9 => ?_) (fun h9 => ?_)
      · refine wa_iconst (v := 0) (by decide) ?_
        refine wa_istore_nD (lv' := [(3, .int (bI false)), (0, .ref 7), (1, .int a0), (2, .int a1)]) (i := 3) rfl (by decide) rfl ?_
        refine wa_iload_n (i := 3) rfl rfl ?_
        refine wa_if_eq o_X2_token_54 (by decide) (fun h10 => ?_) (fun h10 => ?_)
        · replace h10 := bI_f (b := false) (rfl) h10
          refine wa_iconst (v := 0) (by decide) ?_
          refine wa_ireturn rfl rfl ?_
          exact ⟨_, rfl, rfl, trivial⟩
        · replace h10 := bI_t (b := false) (rfl) h10
          refine wa_aload_n (i := 0) rfl rfl ?_
          refine wa_getr ck_2 fl_2_18 ly_7 rf_7_2 ?_
          refine wa_iload_n (i := 1) rfl rfl ?_
          refine wa_bipush (v := 120) (by decide) ?_
          refine wa_imul ?_
          refine wa_top (fun v11 hv11 => ?_)
          have tv11 := i_mulT hv11
          clear hv11
          refine wa_iload_n (i := 2) rfl rfl ?_
          refine wa_iadd ?_
          refine wa_top (fun v12 hv12 => ?_)
          have tv12 := i_addT hv12
          clear hv12
          refine wa_iald ly_10 (by ((try simp only [vp_in_iff, Int32.lt_iff_toInt_lt, Int32.le_iff_toInt_le, ← Int32.toInt_inj, Int32.reduceToInt, n_1, n_2, n_8, Int32.toNatClampNeg, Int64.lt_iff_toInt_lt, Int64.le_iff_toInt_le, ← Int64.toInt_inj, Int64.reduceToInt, Int32.toInt_toInt64, lg_cmp_ge, lg_cmp_le, lg_cmp_gt, lg_cmp_lt, lg_cmp_eq, Bool.false_eq_true, Bool.true_eq_false, reduceCtorEq, false_iff, true_iff, iff_true, iff_false, and_true, true_and, and_false, false_and, reduceIte, ite_true, ite_false, eq_self] at *)) <;> omega) ?_
          refine wa_goto o_X2_token_55 (by decide) ?_
          refine wa_ireturn rfl rfl ?_
          exact ⟨_, rfl, rfl, trivial⟩
      · refine wa_iload_n (i := 2) rfl rfl ?_
        refine wa_bipush (v := 120) (by decide) ?_
        refine wa_icmp_ge o_X2_token_34 (by decide) (fun h13 => ?_) (fun h13 => ?_)
        · refine wa_iconst (v := 0) (by decide) ?_
          refine wa_istore_nD (lv' := [(3, .int (bI false)), (0, .ref 7), (1, .int a0), (2, .int a1)]) (i := 3) rfl (by decide) rfl ?_
          refine wa_iload_n (i := 3) rfl rfl ?_
          refine wa_if_eq o_X2_token_54 (by decide) (fun h14 => ?_) (fun h14 => ?_)
          · replace h14 := bI_f (b := false) (rfl) h14
            refine wa_iconst (v := 0) (by decide) ?_
            refine wa_ireturn rfl rfl ?_
            exact ⟨_, rfl, rfl, trivial⟩
          · replace h14 := bI_t (b := false) (rfl) h14
            refine wa_aload_n (i := 0) rfl rfl ?_
            refine wa_getr ck_2 fl_2_18 ly_7 rf_7_2 ?_
            refine wa_iload_n (i := 1) rfl rfl ?_
            refine wa_bipush (v := 120) (by decide) ?_
            refine wa_imul ?_
            refine wa_top (fun v15 hv15 => ?_)
            have tv15 := i_mulT hv15
            clear hv15
            refine wa_iload_n (i := 2) rfl rfl ?_
            refine wa_iadd ?_
            refine wa_top (fun v16 hv16 => ?_)
            have tv16 := i_addT hv16
            clear hv16
            refine wa_iald ly_10 (by ((try simp only [vp_in_iff, Int32.lt_iff_toInt_lt, Int32.le_iff_toInt_le, ← Int32.toInt_inj, Int32.reduceToInt, n_1, n_2, n_8, Int32.toNatClampNeg, Int64.lt_iff_toInt_lt, Int64.le_iff_toInt_le, ← Int64.toInt_inj, Int64.reduceToInt, Int32.toInt_toInt64, lg_cmp_ge, lg_cmp_le, lg_cmp_gt, lg_cmp_lt, lg_cmp_eq, Bool.false_eq_true, Bool.true_eq_false, reduceCtorEq, false_iff, true_iff, iff_true, iff_false, and_true, true_and, and_false, false_and, reduceIte, ite_true, ite_false, eq_self] at *)) <;> omega) ?_
            refine wa_goto o_X2_token_55 (by decide) ?_
            refine wa_ireturn rfl rfl ?_
            exact ⟨_, rfl, rfl, trivial⟩
        · have mh13 := nle_mx h13
          refine wa_iload_n (i := 2) rfl rfl ?_
          refine wa_aload_n (i := 0) rfl rfl ?_
          refine wa_iload_n (i := 1) rfl rfl ?_
          refine wa_iconst (v := 0) (by decide) ?_
          refine wa_Vi (d9 := d - 1) [.int _, .int _] [.int a1] (sp_X2_fact G (d := d - 1) (by omega) σ _ _) (rfl) rfl rfl (zr (by omega)) mk_X2_fact ly_7 ml_2_67 (Nat.le_of_ble_eq_true rfl) (fun x18 s17 hs17 => ?_)
          obtain ⟨zs17, -⟩ := pI hs17
          subst zs17
          refine wa_icmp_ge o_X2_token_34 (by decide) (fun h19 => ?_) (fun h19 => ?_)
          · refine wa_iconst (v := 0) (by decide) ?_
            refine wa_istore_nD (lv' := [(3, .int (bI false)), (0, .ref 7), (1, .int a0), (2, .int a1)]) (i := 3) rfl (by decide) rfl ?_
            refine wa_iload_n (i := 3) rfl rfl ?_
            refine wa_if_eq o_X2_token_54 (by decide) (fun h20 => ?_) (fun h20 => ?_)
            · replace h20 := bI_f (b := false) (rfl) h20
              refine wa_iconst (v := 0) (by decide) ?_
              refine wa_ireturn rfl rfl ?_
              exact ⟨_, rfl, rfl, trivial⟩
            · replace h20 := bI_t (b := false) (rfl) h20
              refine wa_aload_n (i := 0) rfl rfl ?_
              refine wa_getr ck_2 fl_2_18 ly_7 rf_7_2 ?_
              refine wa_iload_n (i := 1) rfl rfl ?_
              refine wa_bipush (v := 120) (by decide) ?_
              refine wa_imul ?_
              refine wa_top (fun v21 hv21 => ?_)
              have tv21 := i_mulT hv21
              clear hv21
              refine wa_iload_n (i := 2) rfl rfl ?_
              refine wa_iadd ?_
              refine wa_top (fun v22 hv22 => ?_)
              have tv22 := i_addT hv22
              clear hv22
              refine wa_iald ly_10 (by ((try simp only [vp_in_iff, Int32.lt_iff_toInt_lt, Int32.le_iff_toInt_le, ← Int32.toInt_inj, Int32.reduceToInt, n_1, n_2, n_8, Int32.toNatClampNeg, Int64.lt_iff_toInt_lt, Int64.le_iff_toInt_le, ← Int64.toInt_inj, Int64.reduceToInt, Int32.toInt_toInt64, lg_cmp_ge, lg_cmp_le, lg_cmp_gt, lg_cmp_lt, lg_cmp_eq, Bool.false_eq_true, Bool.true_eq_false, reduceCtorEq, false_iff, true_iff, iff_true, iff_false, and_true, true_and, and_false, false_and, reduceIte, ite_true, ite_false, eq_self] at *)) <;> omega) ?_
              refine wa_goto o_X2_token_55 (by decide) ?_
              refine wa_ireturn rfl rfl ?_
              exact ⟨_, rfl, rfl, trivial⟩
          · have mh19 := nle_mx h19
            refine wa_iconst (v := 1) (by decide) ?_
            refine wa_goto o_X2_token_35 (by decide) ?_
            refine wa_istore_nD (lv' := [(3, .int (bI true)), (0, .ref 7), (1, .int a0), (2, .int a1)]) (i := 3) rfl (by decide) rfl ?_
            refine wa_iload_n (i := 3) rfl rfl ?_
            refine wa_if_eq o_X2_token_54 (by decide) (fun h23 => ?_) (fun h23 => ?_)
            · replace h23 := bI_f (b := true) (rfl) h23
              refine wa_iconst (v := 0) (by decide) ?_
              refine wa_ireturn rfl rfl ?_
              exact ⟨_, rfl, rfl, trivial⟩
            · replace h23 := bI_t (b := true) (rfl) h23
              refine wa_aload_n (i := 0) rfl rfl ?_
              refine wa_getr ck_2 fl_2_18 ly_7 rf_7_2 ?_
              refine wa_iload_n (i := 1) rfl rfl ?_
              refine wa_bipush (v := 120) (by decide) ?_
              refine wa_imul ?_
              refine wa_top (fun v24 hv24 => ?_)
              have tv24 := i_mulT hv24
              clear hv24
              refine wa_iload_n (i := 2) rfl rfl ?_
              refine wa_iadd ?_
              refine wa_top (fun v25 hv25 => ?_)
              have tv25 := i_addT hv25
              clear hv25
              refine wa_iald ly_10 (by ((try simp only [vp_in_iff, Int32.lt_iff_toInt_lt, Int32.le_iff_toInt_le, ← Int32.toInt_inj, Int32.reduceToInt, n_1, n_2, n_8, Int32.toNatClampNeg, Int64.lt_iff_toInt_lt, Int64.le_iff_toInt_le, ← Int64.toInt_inj, Int64.reduceToInt, Int32.toInt_toInt64, lg_cmp_ge, lg_cmp_le, lg_cmp_gt, lg_cmp_lt, lg_cmp_eq, Bool.false_eq_true, Bool.true_eq_false, reduceCtorEq, false_iff, true_iff, iff_true, iff_false, and_true, true_and, and_false, false_and, reduceIte, ite_true, ite_false, eq_self] at *)) <;> omega) ?_
              refine wa_goto o_X2_token_55 (by decide) ?_
              refine wa_ireturn rfl rfl ?_
              exact ⟨_, rfl, rfl, trivial⟩
set_option maxHeartbeats 4000000 in
theorem sp_X2_setStep (G : kG9) {d : Nat} (hd : 0 ≤ d) (σ : St) (a0 : Int32) (a1 : Int32) (a2 : Int32) : Ct G M_X2_setStep d [.ref 7, .int a0, .int a1, .int a2] σ (fun r σ' => Sm 11 12 σ σ' ∧ True) := by
  refine wa_start (by decide) rfl (Nat.le_of_ble_eq_true rfl) (lv := [(0, .ref 7), (1, .int a0), (2, .int a1), (3, .int a2)]) rfl o_X2_setStep_0 rfl ?_
  have ua0 := Int32.toInt_lt a0
  have wa0 := Int32.le_toInt a0
  have ua1 := Int32.toInt_lt a1
  have wa1 := Int32.le_toInt a1
  have ua2 := Int32.toInt_lt a2
  have wa2 := Int32.le_toInt a2
  refine wa_iload_n (i := 1) rfl rfl ?_
  refine wa_if_lt o_X2_setStep_34 (by decide) (fun h1 => ?_) (fun h1 => ?_)
  · refine wa_return (st := []) rfl rfl ?_
    exact ⟨(Sm.rf 11 12 σ), trivial⟩
  · refine wa_iload_n (i := 1) rfl rfl ?_
    refine wa_bipush (v := 26) (by decide) ?_
    refine wa_icmp_ge o_X2_setStep_34 (by decide) (fun h2 => ?_) (fun h2 => ?_)
    · refine wa_return (st := []) rfl rfl ?_
      exact ⟨(Sm.rf 11 12 σ), trivial⟩
    · have mh2 := nle_mx h2
      refine wa_iload_n (i := 2) rfl rfl ?_
      refine wa_if_lt o_X2_setStep_34 (by decide) (fun h3 => ?_) (fun h3 => ?_)
      · refine wa_return (st := []) rfl rfl ?_
        exact ⟨(Sm.rf 11 12 σ), trivial⟩
      · refine wa_iload_n (i := 2) rfl rfl ?_
        refine wa_sipush (v := 512) (by decide) ?_
        refine wa_icmp_ge o_X2_setStep_34 (by decide) (fun h4 => ?_) (fun h4 => ?_)
        · refine wa_return (st := []) rfl rfl ?_
          exact ⟨(Sm.rf 11 12 σ), trivial⟩
        · have mh4 := nle_mx h4
          refine wa_aload_n (i := 0) rfl rfl ?_
          refine wa_getr ck_2 fl_2_22 ly_7 rf_7_3 ?_
          refine wa_iload_n (i := 1) rfl rfl ?_
          refine wa_sipush (v := 512) (by decide) ?_
          refine wa_imul ?_
          refine wa_top (fun v5 hv5 => ?_)
          have tv5 := i_mulT hv5
          clear hv5
          refine wa_iload_n (i := 2) rfl rfl ?_
          refine wa_iadd ?_
          refine wa_top (fun v6 hv6 => ?_)
          have tv6 := i_addT hv6
          clear hv6
          refine wa_iload_n (i := 3) rfl rfl ?_
          refine wa_iast ly_11 (by ((try simp only [vp_in_iff, Int32.lt_iff_toInt_lt, Int32.le_iff_toInt_le, ← Int32.toInt_inj, Int32.reduceToInt, n_1, n_2, n_8, Int32.toNatClampNeg, Int64.lt_iff_toInt_lt, Int64.le_iff_toInt_le, ← Int64.toInt_inj, Int64.reduceToInt, Int32.toInt_toInt64, lg_cmp_ge, lg_cmp_le, lg_cmp_gt, lg_cmp_lt, lg_cmp_eq, Bool.false_eq_true, Bool.true_eq_false, reduceCtorEq, false_iff, true_iff, iff_true, iff_false, and_true, true_and, and_false, false_and, reduceIte, ite_true, ite_false, eq_self] at *)) <;> omega) (fun s7 hs7 => ?_)
          have Fs7 : Sm 11 12 σ s7 := by rw [hs7]; exact Sm.si (Sm.rf 11 12 σ) _ _ (by decide) (by decide)
          refine wa_return (st := []) rfl rfl ?_
          exact ⟨Fs7, trivial⟩
set_option maxHeartbeats 4000000 in
theorem sp_X2_step (G : kG9) {d : Nat} (hd : 0 ≤ d) (σ : St) (a0 : Int32) (a1 : Int32) : Ct G M_X2_step d [.ref 7, .int a0, .int a1] σ (fun r σ' => ∃ x : Int32, r = some (.int x) ∧ σ = σ' ∧ True) := by
  refine wa_start (by decide) rfl (Nat.le_of_ble_eq_true rfl) (lv := [(0, .ref 7), (1, .int a0), (2, .int a1)]) rfl o_X2_step_0 rfl ?_
  have ua0 := Int32.toInt_lt a0
  have wa0 := Int32.le_toInt a0
  have ua1 := Int32.toInt_lt a1
  have wa1 := Int32.le_toInt a1
  refine wa_iload_n (i := 1) rfl rfl ?_
  refine wa_if_lt o_X2_step_36 (by decide) (fun h1 => ?_) (fun h1 => ?_)
  · refine wa_iconst (v := 0) (by decide) ?_
    refine wa_ireturn rfl rfl ?_
    exact ⟨_, rfl, rfl, trivial⟩
  · refine wa_iload_n (i := 1) rfl rfl ?_
    refine wa_bipush (v := 26) (by decide) ?_
    refine wa_icmp_ge o_X2_step_36 (by decide) (fun h2 => ?_) (fun h2 => ?_)
    · refine wa_iconst (v := 0) (by decide) ?_
      refine wa_ireturn rfl rfl ?_
      exact ⟨_, rfl, rfl, trivial⟩
    · have mh2 := nle_mx h2
      refine wa_iload_n (i := 2) rfl rfl ?_
      refine wa_if_lt o_X2_step_36 (by decide) (fun h3 => ?_) (fun h3 => ?_)
      · refine wa_iconst (v := 0) (by decide) ?_
        refine wa_ireturn rfl rfl ?_
        exact ⟨_, rfl, rfl, trivial⟩
      · refine wa_iload_n (i := 2) rfl rfl ?_
        refine wa_sipush (v := 512) (by decide) ?_
        refine wa_icmp_ge o_X2_step_36 (by decide) (fun h4 => ?_) (fun h4 => ?_)
        · refine wa_iconst (v := 0) (by decide) ?_
          refine wa_ireturn rfl rfl ?_
          exact ⟨_, rfl, rfl, trivial⟩
        · have mh4 := nle_mx h4
          refine wa_aload_n (i := 0) rfl rfl ?_
          refine wa_getr ck_2 fl_2_22 ly_7 rf_7_3 ?_
          refine wa_iload_n (i := 1) rfl rfl ?_
          refine wa_sipush (v := 512) (by decide) ?_
          refine wa_imul ?_
          refine wa_top (fun v5 hv5 => ?_)
          have tv5 := i_mulT hv5
          clear hv5
          refine wa_iload_n (i := 2) rfl rfl ?_
          refine wa_iadd ?_
          refine wa_top (fun v6 hv6 => ?_)
          have tv6 := i_addT hv6
          clear hv6
          refine wa_iald ly_11 (by ((try simp only [vp_in_iff, Int32.lt_iff_toInt_lt, Int32.le_iff_toInt_le, ← Int32.toInt_inj, Int32.reduceToInt, n_1, n_2, n_8, Int32.toNatClampNeg, Int64.lt_iff_toInt_lt, Int64.le_iff_toInt_le, ← Int64.toInt_inj, Int64.reduceToInt, Int32.toInt_toInt64, lg_cmp_ge, lg_cmp_le, lg_cmp_gt, lg_cmp_lt, lg_cmp_eq, Bool.false_eq_true, Bool.true_eq_false, reduceCtorEq, false_iff, true_iff, iff_true, iff_false, and_true, true_and, and_false, false_and, reduceIte, ite_true, ite_false, eq_self] at *)) <;> omega) ?_
          refine wa_goto o_X2_step_37 (by decide) ?_
          refine wa_ireturn rfl rfl ?_
          exact ⟨_, rfl, rfl, trivial⟩
set_option maxHeartbeats 4000000 in
theorem sp_X2_poolNumber (G : kG9) {d : Nat} (hd : 0 ≤ d) (σ : St) : Ct G M_X2_poolNumber d [.ref 7, .ref 28] σ (fun r σ' => ∃ x : Int32, r = some (.int x) ∧ Sm 7 16 σ σ' ∧ True) := by
  refine wa_start (by decide) rfl (Nat.le_of_ble_eq_true rfl) (lv := [(0, .ref 7), (1, .ref 28)]) rfl o_X2_poolNumber_0 rfl ?_
  refine wa_iconst (v := 0) (by decide) ?_
  refine wa_istore_nD (lv' := [(2, .int 0), (0, .ref 7), (1, .ref 28)]) (i := 2) rfl (by decide) rfl ?_
  refine wa_iconst (v := 0) (by decide) ?_
  refine wa_istore_nD (lv' := [(3, .int (bI false)), (2, .int 0), (0, .ref 7), (1, .ref 28)]) (i := 3) rfl (by decide) rfl ?_
  refine wa_iconst (v := 0) (by decide) ?_
  refine wa_istoreD (lv' := [(4, .int 0), (3, .int (bI false)), (2, .int 0), (0, .ref 7), (1, .ref 28)]) (by decide) rfl ?_
  refine wa_pick [3, 4, 2, 1, 0] rfl ?_
  have hi2 : ∀ (n9_7 : Nat) (l2 : Int32) (l3 : Bool) (l4 : Int32), ((0 ≤ l4.toInt) ∧ (True)) → (2147483647 - l4.toInt).toNat = n9_7 → WA G M_X2_poolNumber (ZM G M_X2_poolNumber d (fun r σ' => ∃ x : Int32, r = some (.int x) ∧ Sm 7 16 σ σ' ∧ True)) B_X2_poolNumber_7 [(0, .ref 7), (1, .ref 28), (2, .int l2), (3, .int (bI l3)), (4, .int l4)] [] σ := by
    intro n9_7
    induction n9_7 using Nat.strongRecOn with
    | _ n9_7 ih1 =>
      intro l2 l3 l4  i9 m9_7
      obtain ⟨jhi2_0, -⟩ := i9
      have ul2 := Int32.toInt_lt l2
      have wl2 := Int32.le_toInt l2
      have ul4 := Int32.toInt_lt l4
      have wl4 := Int32.le_toInt l4
      refine wa_iload rfl ?_
      refine wa_aload_n (i := 0) rfl rfl ?_
      refine wa_geti ck_2 fl_2_58 ly_7 ?_
      refine wa_icmp_ge o_X2_poolNumber_92 (by decide) (fun h3 => ?_) (fun h3 => ?_)
      · refine wa_iload_n (i := 3) rfl rfl ?_
        refine wa_if_ne o_X2_poolNumber_167 (by decide) (fun h4 => ?_) (fun h4 => ?_)
        · replace h4 := bI_t (b := l3) (rfl) h4
          refine wa_iload_n (i := 2) rfl rfl ?_
          refine wa_ireturn rfl rfl ?_
          exact ⟨_, rfl, (Sm.rf 7 16 σ), trivial⟩
        · replace h4 := bI_f (b := l3) (rfl) h4
          refine wa_aload_n (i := 0) rfl rfl ?_
          refine wa_geti ck_2 fl_2_58 ly_7 ?_
          refine wa_if_lt o_X2_poolNumber_167 (by decide) (fun h5 => ?_) (fun h5 => ?_)
          · refine wa_iload_n (i := 2) rfl rfl ?_
            refine wa_ireturn rfl rfl ?_
            exact ⟨_, rfl, (Sm.rf 7 16 σ), trivial⟩
          · refine wa_aload_n (i := 0) rfl rfl ?_
            refine wa_geti ck_2 fl_2_58 ly_7 ?_
            refine wa_sipush (v := 640) (by decide) ?_
            refine wa_icmp_ge o_X2_poolNumber_167 (by decide) (fun h6 => ?_) (fun h6 => ?_)
            · refine wa_iload_n (i := 2) rfl rfl ?_
              refine wa_ireturn rfl rfl ?_
              exact ⟨_, rfl, (Sm.rf 7 16 σ), trivial⟩
            · have mh6 := nle_mx h6
              refine wa_aload_n (i := 0) rfl rfl ?_
              refine wa_geti ck_2 fl_2_58 ly_7 ?_
              refine wa_istore_nD (lv' := [(2, .int (gi σ 7 12)), (0, .ref 7), (1, .ref 28), (3, .int (bI l3)), (4, .int l4)]) (i := 2) rfl (by decide) rfl ?_
              refine wa_iconst (v := 0) (by decide) ?_
              refine wa_istoreD (lv' := [(4, .int 0), (2, .int (gi σ 7 12)), (0, .ref 7), (1, .ref 28), (3, .int (bI l3))]) (by decide) rfl ?_
              refine wa_pick [2, 3, 1, 0] rfl ?_
              have hi9 : ∀ (n9_121 : Nat) (l4 : Int32) (s7 : St), ((Sm 7 16 σ s7) ∧ (gi s7 7 12 = gi σ 7 12) ∧ (0 ≤ l4.toInt) ∧ (True)) → (2147483647 - l4.toInt).toNat = n9_121 → WA G M_X2_poolNumber (ZM G M_X2_poolNumber d (fun r σ' => ∃ x : Int32, r = some (.int x) ∧ Sm 7 16 σ σ' ∧ True)) B_X2_poolNumber_121 [(0, .ref 7), (1, .ref 28), (2, .int (gi σ 7 12)), (4, .int l4)] [] s7 := by
                intro n9_121
                induction n9_121 using Nat.strongRecOn with
                | _ n9_121 ih8 =>
                  intro l4 s7 i9 m9_121
                  obtain ⟨Fs7, khi9_0, jhi9_0, -⟩ := i9
                  have ul4 := Int32.toInt_lt l4
                  have wl4 := Int32.le_toInt l4
                  refine wa_iload rfl ?_
                  refine wa_bipush (v := 6) (by decide) ?_
                  refine wa_icmp_ge o_X2_poolNumber_157 (by decide) (fun h10 => ?_) (fun h10 => ?_)
                  · refine wa_aload_n (i := 0) rfl rfl ?_
                    refine wa_dup rfl ?_
                    refine wa_geti ck_2 fl_2_58 ly_7 ?_
                    refine wa_rw (khi9_0) ?_
                    refine wa_iconst (v := 1) (by decide) ?_
                    refine wa_iadd ?_
                    refine wa_top (fun v11 hv11 => ?_)
                    have tv11 := i_addT hv11
                    clear hv11
                    refine wa_puti ck_2 fl_2_58 ly_7 (fun s12 hs12 => ?_)
                    have Fs12 : Sm 7 16 σ s12 := by rw [hs12]; exact Sm.si Fs7 _ _ (by decide) (by decide)
                    refine wa_iload_n (i := 2) rfl rfl ?_
                    refine wa_ireturn rfl rfl ?_
                    exact ⟨_, rfl, Fs12, trivial⟩
                  · have mh10 := nle_mx h10
                    refine wa_iload rfl ?_
                    refine wa_aload_n (i := 1) rfl rfl ?_
                    refine wa_alen ly_28 (by decide) ?_
                    refine wa_rw (show Int32.ofNat 6 = 6 from rfl) ?_
                    refine wa_icmp_ge o_X2_poolNumber_157 (by decide) (fun h13 => ?_) (fun h13 => ?_)
                    · refine wa_aload_n (i := 0) rfl rfl ?_
                      refine wa_dup rfl ?_
                      refine wa_geti ck_2 fl_2_58 ly_7 ?_
                      refine wa_rw (khi9_0) ?_
                      refine wa_iconst (v := 1) (by decide) ?_
                      refine wa_iadd ?_
                      refine wa_top (fun v14 hv14 => ?_)
                      have tv14 := i_addT hv14
                      clear hv14
                      refine wa_puti ck_2 fl_2_58 ly_7 (fun s15 hs15 => ?_)
                      have Fs15 : Sm 7 16 σ s15 := by rw [hs15]; exact Sm.si Fs7 _ _ (by decide) (by decide)
                      refine wa_iload_n (i := 2) rfl rfl ?_
                      refine wa_ireturn rfl rfl ?_
                      exact ⟨_, rfl, Fs15, trivial⟩
                    · have mh13 := nle_mx h13
                      refine wa_aload_n (i := 0) rfl rfl ?_
                      refine wa_getr ck_2 fl_2_34 ly_7 rf_7_7 ?_
                      refine wa_iload_n (i := 2) rfl rfl ?_
                      refine wa_bipush (v := 6) (by decide) ?_
                      refine wa_imul ?_
                      refine wa_top (fun v16 hv16 => ?_)
                      have tv16 := i_mulT hv16
                      clear hv16
                      refine wa_iload rfl ?_
                      refine wa_iadd ?_
                      refine wa_top (fun v17 hv17 => ?_)
                      have tv17 := i_addT hv17
                      clear hv17
                      refine wa_aload_n (i := 1) rfl rfl ?_
                      refine wa_iload rfl ?_
                      refine wa_iald ly_28 (by ((try simp only [vp_in_iff, Int32.lt_iff_toInt_lt, Int32.le_iff_toInt_le, ← Int32.toInt_inj, Int32.reduceToInt, n_1, n_2, n_8, Int32.toNatClampNeg, Int64.lt_iff_toInt_lt, Int64.le_iff_toInt_le, ← Int64.toInt_inj, Int64.reduceToInt, Int32.toInt_toInt64, lg_cmp_ge, lg_cmp_le, lg_cmp_gt, lg_cmp_lt, lg_cmp_eq, Bool.false_eq_true, Bool.true_eq_false, reduceCtorEq, false_iff, true_iff, iff_true, iff_false, and_true, true_and, and_false, false_and, reduceIte, ite_true, ite_false, eq_self] at *)) <;> omega) ?_
                      refine wa_iast ly_15 (by ((try simp only [vp_in_iff, Int32.lt_iff_toInt_lt, Int32.le_iff_toInt_le, ← Int32.toInt_inj, Int32.reduceToInt, n_1, n_2, n_8, Int32.toNatClampNeg, Int64.lt_iff_toInt_lt, Int64.le_iff_toInt_le, ← Int64.toInt_inj, Int64.reduceToInt, Int32.toInt_toInt64, lg_cmp_ge, lg_cmp_le, lg_cmp_gt, lg_cmp_lt, lg_cmp_eq, Bool.false_eq_true, Bool.true_eq_false, reduceCtorEq, false_iff, true_iff, iff_true, iff_false, and_true, true_and, and_false, false_and, reduceIte, ite_true, ite_false, eq_self] at *)) <;> omega) (fun s18 hs18 => ?_)
                      have Fs18 : Sm 7 16 σ s18 := by rw [hs18]; exact Sm.si Fs7 _ _ (by decide) (by decide)
                      refine wa_iinc (v := (1)) (lv' := fun y19 => [(4, .int y19), (0, .ref 7), (1, .ref 28), (2, .int (gi σ 7 12))]) (by decide) rfl (by decide) (fun _ => rfl) (fun y19 hy19 => ?_)
                      have ty19 := i_addT hy19.symm
                      clear hy19
                      refine wa_goto o_X2_poolNumber_121 (by decide) ?_
                      refine wa_pick [1, 2, 3, 0] rfl ?_
                      exact ih8 _ (by ((try simp only [vp_in_iff, Int32.lt_iff_toInt_lt, Int32.le_iff_toInt_le, ← Int32.toInt_inj, Int32.reduceToInt, n_1, n_2, n_8, Int32.toNatClampNeg, Int64.lt_iff_toInt_lt, Int64.le_iff_toInt_le, ← Int64.toInt_inj, Int64.reduceToInt, Int32.toInt_toInt64, lg_cmp_ge, lg_cmp_le, lg_cmp_gt, lg_cmp_lt, lg_cmp_eq, Bool.false_eq_true, Bool.true_eq_false, reduceCtorEq, false_iff, true_iff, iff_true, iff_false, and_true, true_and, and_false, false_and, reduceIte, ite_true, ite_false, eq_self] at *)) <;> omega) _ _ ⟨Fs18, ((nxq_gi_si hs18 (by decide)).trans (khi9_0)), (by ((try simp only [vp_in_iff, Int32.lt_iff_toInt_lt, Int32.le_iff_toInt_le, ← Int32.toInt_inj, Int32.reduceToInt, n_1, n_2, n_8, Int32.toNatClampNeg, Int64.lt_iff_toInt_lt, Int64.le_iff_toInt_le, ← Int64.toInt_inj, Int64.reduceToInt, Int32.toInt_toInt64, lg_cmp_ge, lg_cmp_le, lg_cmp_gt, lg_cmp_lt, lg_cmp_eq, Bool.false_eq_true, Bool.true_eq_false, reduceCtorEq, false_iff, true_iff, iff_true, iff_false, and_true, true_and, and_false, false_and, reduceIte, ite_true, ite_false, eq_self] at *)) <;> omega), trivial⟩ rfl
              exact hi9 _ _ _ ⟨(Sm.rf 7 16 σ), (rfl), (by ((try simp only [vp_in_iff, Int32.lt_iff_toInt_lt, Int32.le_iff_toInt_le, ← Int32.toInt_inj, Int32.reduceToInt, n_1, n_2, n_8, Int32.toNatClampNeg, Int64.lt_iff_toInt_lt, Int64.le_iff_toInt_le, ← Int64.toInt_inj, Int64.reduceToInt, Int32.toInt_toInt64, lg_cmp_ge, lg_cmp_le, lg_cmp_gt, lg_cmp_lt, lg_cmp_eq, Bool.false_eq_true, Bool.true_eq_false, reduceCtorEq, false_iff, true_iff, iff_true, iff_false, and_true, true_and, and_false, false_and, reduceIte, ite_true, ite_false, eq_self] at *)) <;> omega), trivial⟩ rfl
      · have mh3 := nle_mx h3
        refine wa_iload rfl ?_
        refine wa_sipush (v := 640) (by decide) ?_
        refine wa_icmp_ge o_X2_poolNumber_92 (by decide) (fun h20 => ?_) (fun h20 => ?_)
        · refine wa_iload_n (i := 3) rfl rfl ?_
          refine wa_if_ne o_X2_poolNumber_167 (by decide) (fun h21 => ?_) (fun h21 => ?_)
          · replace h21 := bI_t (b := l3) (rfl) h21
            refine wa_iload_n (i := 2) rfl rfl ?_
            refine wa_ireturn rfl rfl ?_
            exact ⟨_, rfl, (Sm.rf 7 16 σ), trivial⟩
          · replace h21 := bI_f (b := l3) (rfl) h21
            refine wa_aload_n (i := 0) rfl rfl ?_
            refine wa_geti ck_2 fl_2_58 ly_7 ?_
            refine wa_if_lt o_X2_poolNumber_167 (by decide) (fun h22 => ?_) (fun h22 => ?_)
            · refine wa_iload_n (i := 2) rfl rfl ?_
              refine wa_ireturn rfl rfl ?_
              exact ⟨_, rfl, (Sm.rf 7 16 σ), trivial⟩
            · refine wa_aload_n (i := 0) rfl rfl ?_
              refine wa_geti ck_2 fl_2_58 ly_7 ?_
              refine wa_sipush (v := 640) (by decide) ?_
              refine wa_icmp_ge o_X2_poolNumber_167 (by decide) (fun h23 => ?_) (fun h23 => ?_)
              · refine wa_iload_n (i := 2) rfl rfl ?_
                refine wa_ireturn rfl rfl ?_
                exact ⟨_, rfl, (Sm.rf 7 16 σ), trivial⟩
              · have mh23 := nle_mx h23
                refine wa_aload_n (i := 0) rfl rfl ?_
                refine wa_geti ck_2 fl_2_58 ly_7 ?_
                refine wa_istore_nD (lv' := [(2, .int (gi σ 7 12)), (0, .ref 7), (1, .ref 28), (3, .int (bI l3)), (4, .int l4)]) (i := 2) rfl (by decide) rfl ?_
                refine wa_iconst (v := 0) (by decide) ?_
                refine wa_istoreD (lv' := [(4, .int 0), (2, .int (gi σ 7 12)), (0, .ref 7), (1, .ref 28), (3, .int (bI l3))]) (by decide) rfl ?_
                refine wa_pick [2, 3, 1, 0] rfl ?_
                have hi26 : ∀ (n9_121 : Nat) (l4 : Int32) (s24 : St), ((Sm 7 16 σ s24) ∧ (gi s24 7 12 = gi σ 7 12) ∧ (0 ≤ l4.toInt) ∧ (True)) → (2147483647 - l4.toInt).toNat = n9_121 → WA G M_X2_poolNumber (ZM G M_X2_poolNumber d (fun r σ' => ∃ x : Int32, r = some (.int x) ∧ Sm 7 16 σ σ' ∧ True)) B_X2_poolNumber_121 [(0, .ref 7), (1, .ref 28), (2, .int (gi σ 7 12)), (4, .int l4)] [] s24 := by
                  intro n9_121
                  induction n9_121 using Nat.strongRecOn with
                  | _ n9_121 ih25 =>
                    intro l4 s24 i9 m9_121
                    obtain ⟨Fs24, khi26_0, jhi26_0, -⟩ := i9
                    have ul4 := Int32.toInt_lt l4
                    have wl4 := Int32.le_toInt l4
                    refine wa_iload rfl ?_
                    refine wa_bipush (v := 6) (by decide) ?_
                    refine wa_icmp_ge o_X2_poolNumber_157 (by decide) (fun h27 => ?_) (fun h27 => ?_)
                    · refine wa_aload_n (i := 0) rfl rfl ?_
                      refine wa_dup rfl ?_
                      refine wa_geti ck_2 fl_2_58 ly_7 ?_
                      refine wa_rw (khi26_0) ?_
                      refine wa_iconst (v := 1) (by decide) ?_
                      refine wa_iadd ?_
                      refine wa_top (fun v28 hv28 => ?_)
                      have tv28 := i_addT hv28
                      clear hv28
                      refine wa_puti ck_2 fl_2_58 ly_7 (fun s29 hs29 => ?_)
                      have Fs29 : Sm 7 16 σ s29 := by rw [hs29]; exact Sm.si Fs24 _ _ (by decide) (by decide)
                      refine wa_iload_n (i := 2) rfl rfl ?_
                      refine wa_ireturn rfl rfl ?_
                      exact ⟨_, rfl, Fs29, trivial⟩
                    · have mh27 := nle_mx h27
                      refine wa_iload rfl ?_
                      refine wa_aload_n (i := 1) rfl rfl ?_
                      refine wa_alen ly_28 (by decide) ?_
                      refine wa_rw (show Int32.ofNat 6 = 6 from rfl) ?_
                      refine wa_icmp_ge o_X2_poolNumber_157 (by decide) (fun h30 => ?_) (fun h30 => ?_)
                      · refine wa_aload_n (i := 0) rfl rfl ?_
                        refine wa_dup rfl ?_
                        refine wa_geti ck_2 fl_2_58 ly_7 ?_
                        refine wa_rw (khi26_0) ?_
                        refine wa_iconst (v := 1) (by decide) ?_
                        refine wa_iadd ?_
                        refine wa_top (fun v31 hv31 => ?_)
                        have tv31 := i_addT hv31
                        clear hv31
                        refine wa_puti ck_2 fl_2_58 ly_7 (fun s32 hs32 => ?_)
                        have Fs32 : Sm 7 16 σ s32 := by rw [hs32]; exact Sm.si Fs24 _ _ (by decide) (by decide)
                        refine wa_iload_n (i := 2) rfl rfl ?_
                        refine wa_ireturn rfl rfl ?_
                        exact ⟨_, rfl, Fs32, trivial⟩
                      · have mh30 := nle_mx h30
                        refine wa_aload_n (i := 0) rfl rfl ?_
                        refine wa_getr ck_2 fl_2_34 ly_7 rf_7_7 ?_
                        refine wa_iload_n (i := 2) rfl rfl ?_
                        refine wa_bipush (v := 6) (by decide) ?_
                        refine wa_imul ?_
                        refine wa_top (fun v33 hv33 => ?_)
                        have tv33 := i_mulT hv33
                        clear hv33
                        refine wa_iload rfl ?_
                        refine wa_iadd ?_
                        refine wa_top (fun v34 hv34 => ?_)
                        have tv34 := i_addT hv34
                        clear hv34
                        refine wa_aload_n (i := 1) rfl rfl ?_
                        refine wa_iload rfl ?_
                        refine wa_iald ly_28 (by ((try simp only [vp_in_iff, Int32.lt_iff_toInt_lt, Int32.le_iff_toInt_le, ← Int32.toInt_inj, Int32.reduceToInt, n_1, n_2, n_8, Int32.toNatClampNeg, Int64.lt_iff_toInt_lt, Int64.le_iff_toInt_le, ← Int64.toInt_inj, Int64.reduceToInt, Int32.toInt_toInt64, lg_cmp_ge, lg_cmp_le, lg_cmp_gt, lg_cmp_lt, lg_cmp_eq, Bool.false_eq_true, Bool.true_eq_false, reduceCtorEq, false_iff, true_iff, iff_true, iff_false, and_true, true_and, and_false, false_and, reduceIte, ite_true, ite_false, eq_self] at *)) <;> omega) ?_
                        refine wa_iast ly_15 (by ((try simp only [vp_in_iff, Int32.lt_iff_toInt_lt, Int32.le_iff_toInt_le, ← Int32.toInt_inj, Int32.reduceToInt, n_1, n_2, n_8, Int32.toNatClampNeg, Int64.lt_iff_toInt_lt, Int64.le_iff_toInt_le, ← Int64.toInt_inj, Int64.reduceToInt, Int32.toInt_toInt64, lg_cmp_ge, lg_cmp_le, lg_cmp_gt, lg_cmp_lt, lg_cmp_eq, Bool.false_eq_true, Bool.true_eq_false, reduceCtorEq, false_iff, true_iff, iff_true, iff_false, and_true, true_and, and_false, false_and, reduceIte, ite_true, ite_false, eq_self] at *)) <;> omega) (fun s35 hs35 => ?_)
                        have Fs35 : Sm 7 16 σ s35 := by rw [hs35]; exact Sm.si Fs24 _ _ (by decide) (by decide)
                        refine wa_iinc (v := (1)) (lv' := fun y36 => [(4, .int y36), (0, .ref 7), (1, .ref 28), (2, .int (gi σ 7 12))]) (by decide) rfl (by decide) (fun _ => rfl) (fun y36 hy36 => ?_)
                        have ty36 := i_addT hy36.symm
                        clear hy36
                        refine wa_goto o_X2_poolNumber_121 (by decide) ?_
                        refine wa_pick [1, 2, 3, 0] rfl ?_
                        exact ih25 _ (by ((try simp only [vp_in_iff, Int32.lt_iff_toInt_lt, Int32.le_iff_toInt_le, ← Int32.toInt_inj, Int32.reduceToInt, n_1, n_2, n_8, Int32.toNatClampNeg, Int64.lt_iff_toInt_lt, Int64.le_iff_toInt_le, ← Int64.toInt_inj, Int64.reduceToInt, Int32.toInt_toInt64, lg_cmp_ge, lg_cmp_le, lg_cmp_gt, lg_cmp_lt, lg_cmp_eq, Bool.false_eq_true, Bool.true_eq_false, reduceCtorEq, false_iff, true_iff, iff_true, iff_false, and_true, true_and, and_false, false_and, reduceIte, ite_true, ite_false, eq_self] at *)) <;> omega) _ _ ⟨Fs35, ((nxq_gi_si hs35 (by decide)).trans (khi26_0)), (by ((try simp only [vp_in_iff, Int32.lt_iff_toInt_lt, Int32.le_iff_toInt_le, ← Int32.toInt_inj, Int32.reduceToInt, n_1, n_2, n_8, Int32.toNatClampNeg, Int64.lt_iff_toInt_lt, Int64.le_iff_toInt_le, ← Int64.toInt_inj, Int64.reduceToInt, Int32.toInt_toInt64, lg_cmp_ge, lg_cmp_le, lg_cmp_gt, lg_cmp_lt, lg_cmp_eq, Bool.false_eq_true, Bool.true_eq_false, reduceCtorEq, false_iff, true_iff, iff_true, iff_false, and_true, true_and, and_false, false_and, reduceIte, ite_true, ite_false, eq_self] at *)) <;> omega), trivial⟩ rfl
                exact hi26 _ _ _ ⟨(Sm.rf 7 16 σ), (rfl), (by ((try simp only [vp_in_iff, Int32.lt_iff_toInt_lt, Int32.le_iff_toInt_le, ← Int32.toInt_inj, Int32.reduceToInt, n_1, n_2, n_8, Int32.toNatClampNeg, Int64.lt_iff_toInt_lt, Int64.le_iff_toInt_le, ← Int64.toInt_inj, Int64.reduceToInt, Int32.toInt_toInt64, lg_cmp_ge, lg_cmp_le, lg_cmp_gt, lg_cmp_lt, lg_cmp_eq, Bool.false_eq_true, Bool.true_eq_false, reduceCtorEq, false_iff, true_iff, iff_true, iff_false, and_true, true_and, and_false, false_and, reduceIte, ite_true, ite_false, eq_self] at *)) <;> omega), trivial⟩ rfl
        · have mh20 := nle_mx h20
          refine wa_iload_n (i := 3) rfl rfl ?_
          refine wa_if_ne o_X2_poolNumber_92 (by decide) (fun h37 => ?_) (fun h37 => ?_)
          · replace h37 := bI_t (b := l3) (rfl) h37
            refine wa_iload_n (i := 3) rfl rfl ?_
            refine wa_if_ne o_X2_poolNumber_167 (by decide) (fun h38 => ?_) (fun h38 => ?_)
            · replace h38 := bI_t (b := l3) (rfl) h38
              refine wa_iload_n (i := 2) rfl rfl ?_
              refine wa_ireturn rfl rfl ?_
              exact ⟨_, rfl, (Sm.rf 7 16 σ), trivial⟩
            · replace h38 := bI_f (b := l3) (rfl) h38
              refine wa_aload_n (i := 0) rfl rfl ?_
              refine wa_geti ck_2 fl_2_58 ly_7 ?_
              refine wa_if_lt o_X2_poolNumber_167 (by decide) (fun h39 => ?_) (fun h39 => ?_)
              · refine wa_iload_n (i := 2) rfl rfl ?_
                refine wa_ireturn rfl rfl ?_
                exact ⟨_, rfl, (Sm.rf 7 16 σ), trivial⟩
              · refine wa_aload_n (i := 0) rfl rfl ?_
                refine wa_geti ck_2 fl_2_58 ly_7 ?_
                refine wa_sipush (v := 640) (by decide) ?_
                refine wa_icmp_ge o_X2_poolNumber_167 (by decide) (fun h40 => ?_) (fun h40 => ?_)
                · refine wa_iload_n (i := 2) rfl rfl ?_
                  refine wa_ireturn rfl rfl ?_
                  exact ⟨_, rfl, (Sm.rf 7 16 σ), trivial⟩
                · have mh40 := nle_mx h40
                  refine wa_aload_n (i := 0) rfl rfl ?_
                  refine wa_geti ck_2 fl_2_58 ly_7 ?_
                  refine wa_istore_nD (lv' := [(2, .int (gi σ 7 12)), (0, .ref 7), (1, .ref 28), (3, .int (bI l3)), (4, .int l4)]) (i := 2) rfl (by decide) rfl ?_
                  refine wa_iconst (v := 0) (by decide) ?_
                  refine wa_istoreD (lv' := [(4, .int 0), (2, .int (gi σ 7 12)), (0, .ref 7), (1, .ref 28), (3, .int (bI l3))]) (by decide) rfl ?_
                  refine wa_pick [2, 3, 1, 0] rfl ?_
                  have hi43 : ∀ (n9_121 : Nat) (l4 : Int32) (s41 : St), ((Sm 7 16 σ s41) ∧ (gi s41 7 12 = gi σ 7 12) ∧ (0 ≤ l4.toInt) ∧ (True)) → (2147483647 - l4.toInt).toNat = n9_121 → WA G M_X2_poolNumber (ZM G M_X2_poolNumber d (fun r σ' => ∃ x : Int32, r = some (.int x) ∧ Sm 7 16 σ σ' ∧ True)) B_X2_poolNumber_121 [(0, .ref 7), (1, .ref 28), (2, .int (gi σ 7 12)), (4, .int l4)] [] s41 := by
                    intro n9_121
                    induction n9_121 using Nat.strongRecOn with
                    | _ n9_121 ih42 =>
                      intro l4 s41 i9 m9_121
                      obtain ⟨Fs41, khi43_0, jhi43_0, -⟩ := i9
                      have ul4 := Int32.toInt_lt l4
                      have wl4 := Int32.le_toInt l4
                      refine wa_iload rfl ?_
                      refine wa_bipush (v := 6) (by decide) ?_
                      refine wa_icmp_ge o_X2_poolNumber_157 (by decide) (fun h44 => ?_) (fun h44 => ?_)
                      · refine wa_aload_n (i := 0) rfl rfl ?_
                        refine wa_dup rfl ?_
                        refine wa_geti ck_2 fl_2_58 ly_7 ?_
                        refine wa_rw (khi43_0) ?_
                        refine wa_iconst (v := 1) (by decide) ?_
                        refine wa_iadd ?_
                        refine wa_top (fun v45 hv45 => ?_)
                        have tv45 := i_addT hv45
                        clear hv45
                        refine wa_puti ck_2 fl_2_58 ly_7 (fun s46 hs46 => ?_)
                        have Fs46 : Sm 7 16 σ s46 := by rw [hs46]; exact Sm.si Fs41 _ _ (by decide) (by decide)
                        refine wa_iload_n (i := 2) rfl rfl ?_
                        refine wa_ireturn rfl rfl ?_
                        exact ⟨_, rfl, Fs46, trivial⟩
                      · have mh44 := nle_mx h44
                        refine wa_iload rfl ?_
                        refine wa_aload_n (i := 1) rfl rfl ?_
                        refine wa_alen ly_28 (by decide) ?_
                        refine wa_rw (show Int32.ofNat 6 = 6 from rfl) ?_
                        refine wa_icmp_ge o_X2_poolNumber_157 (by decide) (fun h47 => ?_) (fun h47 => ?_)
                        · refine wa_aload_n (i := 0) rfl rfl ?_
                          refine wa_dup rfl ?_
                          refine wa_geti ck_2 fl_2_58 ly_7 ?_
                          refine wa_rw (khi43_0) ?_
                          refine wa_iconst (v := 1) (by decide) ?_
                          refine wa_iadd ?_
                          refine wa_top (fun v48 hv48 => ?_)
                          have tv48 := i_addT hv48
                          clear hv48
                          refine wa_puti ck_2 fl_2_58 ly_7 (fun s49 hs49 => ?_)
                          have Fs49 : Sm 7 16 σ s49 := by rw [hs49]; exact Sm.si Fs41 _ _ (by decide) (by decide)
                          refine wa_iload_n (i := 2) rfl rfl ?_
                          refine wa_ireturn rfl rfl ?_
                          exact ⟨_, rfl, Fs49, trivial⟩
                        · have mh47 := nle_mx h47
                          refine wa_aload_n (i := 0) rfl rfl ?_
                          refine wa_getr ck_2 fl_2_34 ly_7 rf_7_7 ?_
                          refine wa_iload_n (i := 2) rfl rfl ?_
                          refine wa_bipush (v := 6) (by decide) ?_
                          refine wa_imul ?_
                          refine wa_top (fun v50 hv50 => ?_)
                          have tv50 := i_mulT hv50
                          clear hv50
                          refine wa_iload rfl ?_
                          refine wa_iadd ?_
                          refine wa_top (fun v51 hv51 => ?_)
                          have tv51 := i_addT hv51
                          clear hv51
                          refine wa_aload_n (i := 1) rfl rfl ?_
                          refine wa_iload rfl ?_
                          refine wa_iald ly_28 (by ((try simp only [vp_in_iff, Int32.lt_iff_toInt_lt, Int32.le_iff_toInt_le, ← Int32.toInt_inj, Int32.reduceToInt, n_1, n_2, n_8, Int32.toNatClampNeg, Int64.lt_iff_toInt_lt, Int64.le_iff_toInt_le, ← Int64.toInt_inj, Int64.reduceToInt, Int32.toInt_toInt64, lg_cmp_ge, lg_cmp_le, lg_cmp_gt, lg_cmp_lt, lg_cmp_eq, Bool.false_eq_true, Bool.true_eq_false, reduceCtorEq, false_iff, true_iff, iff_true, iff_false, and_true, true_and, and_false, false_and, reduceIte, ite_true, ite_false, eq_self] at *)) <;> omega) ?_
                          refine wa_iast ly_15 (by ((try simp only [vp_in_iff, Int32.lt_iff_toInt_lt, Int32.le_iff_toInt_le, ← Int32.toInt_inj, Int32.reduceToInt, n_1, n_2, n_8, Int32.toNatClampNeg, Int64.lt_iff_toInt_lt, Int64.le_iff_toInt_le, ← Int64.toInt_inj, Int64.reduceToInt, Int32.toInt_toInt64, lg_cmp_ge, lg_cmp_le, lg_cmp_gt, lg_cmp_lt, lg_cmp_eq, Bool.false_eq_true, Bool.true_eq_false, reduceCtorEq, false_iff, true_iff, iff_true, iff_false, and_true, true_and, and_false, false_and, reduceIte, ite_true, ite_false, eq_self] at *)) <;> omega) (fun s52 hs52 => ?_)
                          have Fs52 : Sm 7 16 σ s52 := by rw [hs52]; exact Sm.si Fs41 _ _ (by decide) (by decide)
                          refine wa_iinc (v := (1)) (lv' := fun y53 => [(4, .int y53), (0, .ref 7), (1, .ref 28), (2, .int (gi σ 7 12))]) (by decide) rfl (by decide) (fun _ => rfl) (fun y53 hy53 => ?_)
                          have ty53 := i_addT hy53.symm
                          clear hy53
                          refine wa_goto o_X2_poolNumber_121 (by decide) ?_
                          refine wa_pick [1, 2, 3, 0] rfl ?_
                          exact ih42 _ (by ((try simp only [vp_in_iff, Int32.lt_iff_toInt_lt, Int32.le_iff_toInt_le, ← Int32.toInt_inj, Int32.reduceToInt, n_1, n_2, n_8, Int32.toNatClampNeg, Int64.lt_iff_toInt_lt, Int64.le_iff_toInt_le, ← Int64.toInt_inj, Int64.reduceToInt, Int32.toInt_toInt64, lg_cmp_ge, lg_cmp_le, lg_cmp_gt, lg_cmp_lt, lg_cmp_eq, Bool.false_eq_true, Bool.true_eq_false, reduceCtorEq, false_iff, true_iff, iff_true, iff_false, and_true, true_and, and_false, false_and, reduceIte, ite_true, ite_false, eq_self] at *)) <;> omega) _ _ ⟨Fs52, ((nxq_gi_si hs52 (by decide)).trans (khi43_0)), (by ((try simp only [vp_in_iff, Int32.lt_iff_toInt_lt, Int32.le_iff_toInt_le, ← Int32.toInt_inj, Int32.reduceToInt, n_1, n_2, n_8, Int32.toNatClampNeg, Int64.lt_iff_toInt_lt, Int64.le_iff_toInt_le, ← Int64.toInt_inj, Int64.reduceToInt, Int32.toInt_toInt64, lg_cmp_ge, lg_cmp_le, lg_cmp_gt, lg_cmp_lt, lg_cmp_eq, Bool.false_eq_true, Bool.true_eq_false, reduceCtorEq, false_iff, true_iff, iff_true, iff_false, and_true, true_and, and_false, false_and, reduceIte, ite_true, ite_false, eq_self] at *)) <;> omega), trivial⟩ rfl
                  exact hi43 _ _ _ ⟨(Sm.rf 7 16 σ), (rfl), (by ((try simp only [vp_in_iff, Int32.lt_iff_toInt_lt, Int32.le_iff_toInt_le, ← Int32.toInt_inj, Int32.reduceToInt, n_1, n_2, n_8, Int32.toNatClampNeg, Int64.lt_iff_toInt_lt, Int64.le_iff_toInt_le, ← Int64.toInt_inj, Int64.reduceToInt, Int32.toInt_toInt64, lg_cmp_ge, lg_cmp_le, lg_cmp_gt, lg_cmp_lt, lg_cmp_eq, Bool.false_eq_true, Bool.true_eq_false, reduceCtorEq, false_iff, true_iff, iff_true, iff_false, and_true, true_and, and_false, false_and, reduceIte, ite_true, ite_false, eq_self] at *)) <;> omega), trivial⟩ rfl
          · replace h37 := bI_f (b := l3) (rfl) h37
            refine wa_iload rfl ?_
            refine wa_istore_nD (lv' := [(2, .int l4), (0, .ref 7), (1, .ref 28), (3, .int (bI l3)), (4, .int l4)]) (i := 2) rfl (by decide) rfl ?_
            refine wa_iconst (v := 1) (by decide) ?_
            refine wa_istore_nD (lv' := [(3, .int (bI true)), (2, .int l4), (0, .ref 7), (1, .ref 28), (4, .int l4)]) (i := 3) rfl (by decide) rfl ?_
            refine wa_iconst (v := 0) (by decide) ?_
            refine wa_istoreD (lv' := [(5, .int 0), (3, .int (bI true)), (2, .int l4), (0, .ref 7), (1, .ref 28), (4, .int l4)]) (by decide) rfl ?_
            refine wa_pick [3, 4, 2, 1, 5, 0] rfl ?_
            have hi55 : ∀ (n9_36 : Nat) (l3 : Bool) (l5 : Int32), ((0 ≤ l5.toInt) ∧ (True)) → (2147483647 - l5.toInt).toNat = n9_36 → WA G M_X2_poolNumber (ZM G M_X2_poolNumber d (fun r σ' => ∃ x : Int32, r = some (.int x) ∧ Sm 7 16 σ σ' ∧ True)) B_X2_poolNumber_36 [(0, .ref 7), (1, .ref 28), (2, .int l4), (3, .int (bI l3)), (4, .int l4), (5, .int l5)] [] σ := by
              intro n9_36
              induction n9_36 using Nat.strongRecOn with
              | _ n9_36 ih54 =>
                intro l3 l5  i9 m9_36
                obtain ⟨jhi55_0, -⟩ := i9
                have ul5 := Int32.toInt_lt l5
                have wl5 := Int32.le_toInt l5
                refine wa_iload rfl ?_
                refine wa_bipush (v := 6) (by decide) ?_
                refine wa_icmp_ge o_X2_poolNumber_86 (by decide) (fun h56 => ?_) (fun h56 => ?_)
                · refine wa_iinc (v := (1)) (lv' := fun y57 => [(4, .int y57), (0, .ref 7), (1, .ref 28), (2, .int l4), (3, .int (bI l3)), (5, .int l5)]) (by decide) rfl (by decide) (fun _ => rfl) (fun y57 hy57 => ?_)
                  have ty57 := i_addT hy57.symm
                  clear hy57
                  refine wa_goto o_X2_poolNumber_7 (by decide) ?_
                  refine wa_pick [1, 2, 3, 4, 0] rfl ?_
                  exact ih1 _ (by ((try simp only [vp_in_iff, Int32.lt_iff_toInt_lt, Int32.le_iff_toInt_le, ← Int32.toInt_inj, Int32.reduceToInt, n_1, n_2, n_8, Int32.toNatClampNeg, Int64.lt_iff_toInt_lt, Int64.le_iff_toInt_le, ← Int64.toInt_inj, Int64.reduceToInt, Int32.toInt_toInt64, lg_cmp_ge, lg_cmp_le, lg_cmp_gt, lg_cmp_lt, lg_cmp_eq, Bool.false_eq_true, Bool.true_eq_false, reduceCtorEq, false_iff, true_iff, iff_true, iff_false, and_true, true_and, and_false, false_and, reduceIte, ite_true, ite_false, eq_self] at *)) <;> omega) _ _ _ ⟨(by ((try simp only [vp_in_iff, Int32.lt_iff_toInt_lt, Int32.le_iff_toInt_le, ← Int32.toInt_inj, Int32.reduceToInt, n_1, n_2, n_8, Int32.toNatClampNeg, Int64.lt_iff_toInt_lt, Int64.le_iff_toInt_le, ← Int64.toInt_inj, Int64.reduceToInt, Int32.toInt_toInt64, lg_cmp_ge, lg_cmp_le, lg_cmp_gt, lg_cmp_lt, lg_cmp_eq, Bool.false_eq_true, Bool.true_eq_false, reduceCtorEq, false_iff, true_iff, iff_true, iff_false, and_true, true_and, and_false, false_and, reduceIte, ite_true, ite_false, eq_self] at *)) <;> omega), trivial⟩ rfl
                · have mh56 := nle_mx h56
                  refine wa_iload rfl ?_
                  refine wa_aload_n (i := 1) rfl rfl ?_
                  refine wa_alen ly_28 (by decide) ?_
                  refine wa_rw (show Int32.ofNat 6 = 6 from rfl) ?_
                  refine wa_icmp_ge o_X2_poolNumber_86 (by decide) (fun h58 => ?_) (fun h58 => ?_)
                  · refine wa_iinc (v := (1)) (lv' := fun y59 => [(4, .int y59), (0, .ref 7), (1, .ref 28), (2, .int l4), (3, .int (bI l3)), (5, .int l5)]) (by decide) rfl (by decide) (fun _ => rfl) (fun y59 hy59 => ?_)
                    have ty59 := i_addT hy59.symm
                    clear hy59
                    refine wa_goto o_X2_poolNumber_7 (by decide) ?_
                    refine wa_pick [1, 2, 3, 4, 0] rfl ?_
                    exact ih1 _ (by ((try simp only [vp_in_iff, Int32.lt_iff_toInt_lt, Int32.le_iff_toInt_le, ← Int32.toInt_inj, Int32.reduceToInt, n_1, n_2, n_8, Int32.toNatClampNeg, Int64.lt_iff_toInt_lt, Int64.le_iff_toInt_le, ← Int64.toInt_inj, Int64.reduceToInt, Int32.toInt_toInt64, lg_cmp_ge, lg_cmp_le, lg_cmp_gt, lg_cmp_lt, lg_cmp_eq, Bool.false_eq_true, Bool.true_eq_false, reduceCtorEq, false_iff, true_iff, iff_true, iff_false, and_true, true_and, and_false, false_and, reduceIte, ite_true, ite_false, eq_self] at *)) <;> omega) _ _ _ ⟨(by ((try simp only [vp_in_iff, Int32.lt_iff_toInt_lt, Int32.le_iff_toInt_le, ← Int32.toInt_inj, Int32.reduceToInt, n_1, n_2, n_8, Int32.toNatClampNeg, Int64.lt_iff_toInt_lt, Int64.le_iff_toInt_le, ← Int64.toInt_inj, Int64.reduceToInt, Int32.toInt_toInt64, lg_cmp_ge, lg_cmp_le, lg_cmp_gt, lg_cmp_lt, lg_cmp_eq, Bool.false_eq_true, Bool.true_eq_false, reduceCtorEq, false_iff, true_iff, iff_true, iff_false, and_true, true_and, and_false, false_and, reduceIte, ite_true, ite_false, eq_self] at *)) <;> omega), trivial⟩ rfl
                  · have mh58 := nle_mx h58
                    refine wa_iload_n (i := 3) rfl rfl ?_
                    refine wa_if_eq o_X2_poolNumber_86 (by decide) (fun h60 => ?_) (fun h60 => ?_)
                    · replace h60 := bI_f (b := l3) (rfl) h60
                      refine wa_iinc (v := (1)) (lv' := fun y61 => [(4, .int y61), (0, .ref 7), (1, .ref 28), (2, .int l4), (3, .int (bI l3)), (5, .int l5)]) (by decide) rfl (by decide) (fun _ => rfl) (fun y61 hy61 => ?_)
                      have ty61 := i_addT hy61.symm
                      clear hy61
                      refine wa_goto o_X2_poolNumber_7 (by decide) ?_
                      refine wa_pick [1, 2, 3, 4, 0] rfl ?_
                      exact ih1 _ (by ((try simp only [vp_in_iff, Int32.lt_iff_toInt_lt, Int32.le_iff_toInt_le, ← Int32.toInt_inj, Int32.reduceToInt, n_1, n_2, n_8, Int32.toNatClampNeg, Int64.lt_iff_toInt_lt, Int64.le_iff_toInt_le, ← Int64.toInt_inj, Int64.reduceToInt, Int32.toInt_toInt64, lg_cmp_ge, lg_cmp_le, lg_cmp_gt, lg_cmp_lt, lg_cmp_eq, Bool.false_eq_true, Bool.true_eq_false, reduceCtorEq, false_iff, true_iff, iff_true, iff_false, and_true, true_and, and_false, false_and, reduceIte, ite_true, ite_false, eq_self] at *)) <;> omega) _ _ _ ⟨(by ((try simp only [vp_in_iff, Int32.lt_iff_toInt_lt, Int32.le_iff_toInt_le, ← Int32.toInt_inj, Int32.reduceToInt, n_1, n_2, n_8, Int32.toNatClampNeg, Int64.lt_iff_toInt_lt, Int64.le_iff_toInt_le, ← Int64.toInt_inj, Int64.reduceToInt, Int32.toInt_toInt64, lg_cmp_ge, lg_cmp_le, lg_cmp_gt, lg_cmp_lt, lg_cmp_eq, Bool.false_eq_true, Bool.true_eq_false, reduceCtorEq, false_iff, true_iff, iff_true, iff_false, and_true, true_and, and_false, false_and, reduceIte, ite_true, ite_false, eq_self] at *)) <;> omega), trivial⟩ rfl
                    · replace h60 := bI_t (b := l3) (rfl) h60
                      refine wa_aload_n (i := 0) rfl rfl ?_
                      refine wa_getr ck_2 fl_2_34 ly_7 rf_7_7 ?_
                      refine wa_iload rfl ?_
                      refine wa_bipush (v := 6) (by decide) ?_
                      refine wa_imul ?_
                      refine wa_top (fun v62 hv62 => ?_)
                      have tv62 := i_mulT hv62
                      clear hv62
                      refine wa_iload rfl ?_
                      refine wa_iadd ?_
                      refine wa_top (fun v63 hv63 => ?_)
                      have tv63 := i_addT hv63
                      clear hv63
                      refine wa_iald ly_15 (by ((try simp only [vp_in_iff, Int32.lt_iff_toInt_lt, Int32.le_iff_toInt_le, ← Int32.toInt_inj, Int32.reduceToInt, n_1, n_2, n_8, Int32.toNatClampNeg, Int64.lt_iff_toInt_lt, Int64.le_iff_toInt_le, ← Int64.toInt_inj, Int64.reduceToInt, Int32.toInt_toInt64, lg_cmp_ge, lg_cmp_le, lg_cmp_gt, lg_cmp_lt, lg_cmp_eq, Bool.false_eq_true, Bool.true_eq_false, reduceCtorEq, false_iff, true_iff, iff_true, iff_false, and_true, true_and, and_false, false_and, reduceIte, ite_true, ite_false, eq_self] at *)) <;> omega) ?_
                      refine wa_aload_n (i := 1) rfl rfl ?_
                      refine wa_iload rfl ?_
                      refine wa_iald ly_28 (by ((try simp only [vp_in_iff, Int32.lt_iff_toInt_lt, Int32.le_iff_toInt_le, ← Int32.toInt_inj, Int32.reduceToInt, n_1, n_2, n_8, Int32.toNatClampNeg, Int64.lt_iff_toInt_lt, Int64.le_iff_toInt_le, ← Int64.toInt_inj, Int64.reduceToInt, Int32.toInt_toInt64, lg_cmp_ge, lg_cmp_le, lg_cmp_gt, lg_cmp_lt, lg_cmp_eq, Bool.false_eq_true, Bool.true_eq_false, reduceCtorEq, false_iff, true_iff, iff_true, iff_false, and_true, true_and, and_false, false_and, reduceIte, ite_true, ite_false, eq_self] at *)) <;> omega) ?_
                      refine wa_icmp_ne o_X2_poolNumber_78 (by decide) (fun h64 => ?_) (fun h64 => ?_)
                      · refine wa_iconst (v := 0) (by decide) ?_
                        refine wa_istore_nD (lv' := [(3, .int (bI false)), (0, .ref 7), (1, .ref 28), (2, .int l4), (4, .int l4), (5, .int l5)]) (i := 3) rfl (by decide) rfl ?_
                        refine wa_iinc (v := (1)) (lv' := fun y65 => [(5, .int y65), (3, .int (bI false)), (0, .ref 7), (1, .ref 28), (2, .int l4), (4, .int l4)]) (by decide) rfl (by decide) (fun _ => rfl) (fun y65 hy65 => ?_)
                        have ty65 := i_addT hy65.symm
                        clear hy65
                        refine wa_goto o_X2_poolNumber_36 (by decide) ?_
                        refine wa_pick [2, 3, 4, 1, 5, 0] rfl ?_
                        exact ih54 _ (by ((try simp only [vp_in_iff, Int32.lt_iff_toInt_lt, Int32.le_iff_toInt_le, ← Int32.toInt_inj, Int32.reduceToInt, n_1, n_2, n_8, Int32.toNatClampNeg, Int64.lt_iff_toInt_lt, Int64.le_iff_toInt_le, ← Int64.toInt_inj, Int64.reduceToInt, Int32.toInt_toInt64, lg_cmp_ge, lg_cmp_le, lg_cmp_gt, lg_cmp_lt, lg_cmp_eq, Bool.false_eq_true, Bool.true_eq_false, reduceCtorEq, false_iff, true_iff, iff_true, iff_false, and_true, true_and, and_false, false_and, reduceIte, ite_true, ite_false, eq_self] at *)) <;> omega) _ _ ⟨(by ((try simp only [vp_in_iff, Int32.lt_iff_toInt_lt, Int32.le_iff_toInt_le, ← Int32.toInt_inj, Int32.reduceToInt, n_1, n_2, n_8, Int32.toNatClampNeg, Int64.lt_iff_toInt_lt, Int64.le_iff_toInt_le, ← Int64.toInt_inj, Int64.reduceToInt, Int32.toInt_toInt64, lg_cmp_ge, lg_cmp_le, lg_cmp_gt, lg_cmp_lt, lg_cmp_eq, Bool.false_eq_true, Bool.true_eq_false, reduceCtorEq, false_iff, true_iff, iff_true, iff_false, and_true, true_and, and_false, false_and, reduceIte, ite_true, ite_false, eq_self] at *)) <;> omega), trivial⟩ rfl
                      · refine wa_iconst (v := 1) (by decide) ?_
                        refine wa_goto o_X2_poolNumber_79 (by decide) ?_
                        refine wa_istore_nD (lv' := [(3, .int (bI true)), (0, .ref 7), (1, .ref 28), (2, .int l4), (4, .int l4), (5, .int l5)]) (i := 3) rfl (by decide) rfl ?_
                        refine wa_iinc (v := (1)) (lv' := fun y66 => [(5, .int y66), (3, .int (bI true)), (0, .ref 7), (1, .ref 28), (2, .int l4), (4, .int l4)]) (by decide) rfl (by decide) (fun _ => rfl) (fun y66 hy66 => ?_)
                        have ty66 := i_addT hy66.symm
                        clear hy66
                        refine wa_goto o_X2_poolNumber_36 (by decide) ?_
                        refine wa_pick [2, 3, 4, 1, 5, 0] rfl ?_
                        exact ih54 _ (by ((try simp only [vp_in_iff, Int32.lt_iff_toInt_lt, Int32.le_iff_toInt_le, ← Int32.toInt_inj, Int32.reduceToInt, n_1, n_2, n_8, Int32.toNatClampNeg, Int64.lt_iff_toInt_lt, Int64.le_iff_toInt_le, ← Int64.toInt_inj, Int64.reduceToInt, Int32.toInt_toInt64, lg_cmp_ge, lg_cmp_le, lg_cmp_gt, lg_cmp_lt, lg_cmp_eq, Bool.false_eq_true, Bool.true_eq_false, reduceCtorEq, false_iff, true_iff, iff_true, iff_false, and_true, true_and, and_false, false_and, reduceIte, ite_true, ite_false, eq_self] at *)) <;> omega) _ _ ⟨(by ((try simp only [vp_in_iff, Int32.lt_iff_toInt_lt, Int32.le_iff_toInt_le, ← Int32.toInt_inj, Int32.reduceToInt, n_1, n_2, n_8, Int32.toNatClampNeg, Int64.lt_iff_toInt_lt, Int64.le_iff_toInt_le, ← Int64.toInt_inj, Int64.reduceToInt, Int32.toInt_toInt64, lg_cmp_ge, lg_cmp_le, lg_cmp_gt, lg_cmp_lt, lg_cmp_eq, Bool.false_eq_true, Bool.true_eq_false, reduceCtorEq, false_iff, true_iff, iff_true, iff_false, and_true, true_and, and_false, false_and, reduceIte, ite_true, ite_false, eq_self] at *)) <;> omega), trivial⟩ rfl
            exact hi55 _ _ _ ⟨(by ((try simp only [vp_in_iff, Int32.lt_iff_toInt_lt, Int32.le_iff_toInt_le, ← Int32.toInt_inj, Int32.reduceToInt, n_1, n_2, n_8, Int32.toNatClampNeg, Int64.lt_iff_toInt_lt, Int64.le_iff_toInt_le, ← Int64.toInt_inj, Int64.reduceToInt, Int32.toInt_toInt64, lg_cmp_ge, lg_cmp_le, lg_cmp_gt, lg_cmp_lt, lg_cmp_eq, Bool.false_eq_true, Bool.true_eq_false, reduceCtorEq, false_iff, true_iff, iff_true, iff_false, and_true, true_and, and_false, false_and, reduceIte, ite_true, ite_false, eq_self] at *)) <;> omega), trivial⟩ rfl
  exact hi2 _ _ _ _ ⟨(by ((try simp only [vp_in_iff, Int32.lt_iff_toInt_lt, Int32.le_iff_toInt_le, ← Int32.toInt_inj, Int32.reduceToInt, n_1, n_2, n_8, Int32.toNatClampNeg, Int64.lt_iff_toInt_lt, Int64.le_iff_toInt_le, ← Int64.toInt_inj, Int64.reduceToInt, Int32.toInt_toInt64, lg_cmp_ge, lg_cmp_le, lg_cmp_gt, lg_cmp_lt, lg_cmp_eq, Bool.false_eq_true, Bool.true_eq_false, reduceCtorEq, false_iff, true_iff, iff_true, iff_false, and_true, true_and, and_false, false_and, reduceIte, ite_true, ite_false, eq_self] at *)) <;> omega), trivial⟩ rfl
set_option maxHeartbeats 4000000 in
theorem sp_X2_addAtom (G : kG9) {d : Nat} (hd : 0 ≤ d) (σ : St) (a0 : Int32) (a1 : Int32) : Ct G M_X2_addAtom d [.ref 7, .int a0, .int a1] σ (fun r σ' => ∃ x : Bool, r = some (.int (bI x)) ∧ Sm 13 15 σ σ' ∧ True) := by
  refine wa_start (by decide) rfl (Nat.le_of_ble_eq_true rfl) (lv := [(0, .ref 7), (1, .int a0), (2, .int a1)]) rfl o_X2_addAtom_0 rfl ?_
  have ua0 := Int32.toInt_lt a0
  have wa0 := Int32.le_toInt a0
  have ua1 := Int32.toInt_lt a1
  have wa1 := Int32.le_toInt a1
  refine wa_iload_n (i := 1) rfl rfl ?_
  refine wa_if_lt o_X2_addAtom_10 (by decide) (fun h1 => ?_) (fun h1 => ?_)
  · refine wa_iconst (v := 0) (by decide) ?_
    refine wa_zreturn false (rfl) rfl rfl ?_
    exact ⟨_, rfl, (Sm.rf 13 15 σ), trivial⟩
  · refine wa_iload_n (i := 1) rfl rfl ?_
    refine wa_bipush (v := 26) (by decide) ?_
    refine wa_icmp_lt o_X2_addAtom_12 (by decide) (fun h2 => ?_) (fun h2 => ?_)
    · refine wa_aload_n (i := 0) rfl rfl ?_
      refine wa_getr ck_2 fl_2_28 ly_7 rf_7_5 ?_
      refine wa_iload_n (i := 1) rfl rfl ?_
      refine wa_bipush (v := 10) (by decide) ?_
      refine wa_imul ?_
      refine wa_top (fun v3 hv3 => ?_)
      have tv3 := i_mulT hv3
      clear hv3
      refine wa_iconst (v := 4) (by decide) ?_
      refine wa_iadd ?_
      refine wa_top (fun v4 hv4 => ?_)
      have tv4 := i_addT hv4
      clear hv4
      refine wa_iald ly_13 (by ((try simp only [vp_in_iff, Int32.lt_iff_toInt_lt, Int32.le_iff_toInt_le, ← Int32.toInt_inj, Int32.reduceToInt, n_1, n_2, n_8, Int32.toNatClampNeg, Int64.lt_iff_toInt_lt, Int64.le_iff_toInt_le, ← Int64.toInt_inj, Int64.reduceToInt, Int32.toInt_toInt64, lg_cmp_ge, lg_cmp_le, lg_cmp_gt, lg_cmp_lt, lg_cmp_eq, Bool.false_eq_true, Bool.true_eq_false, reduceCtorEq, false_iff, true_iff, iff_true, iff_false, and_true, true_and, and_false, false_and, reduceIte, ite_true, ite_false, eq_self] at *)) <;> omega) ?_
      refine wa_istore_nD (lv' := [(3, .int (gi σ 13 (v4).toNatClampNeg)), (0, .ref 7), (1, .int a0), (2, .int a1)]) (i := 3) rfl (by decide) rfl ?_
      refine wa_iconst (v := 0) (by decide) ?_
      refine wa_istoreD (lv' := [(4, .int 0), (3, .int (gi σ 13 (v4).toNatClampNeg)), (0, .ref 7), (1, .int a0), (2, .int a1)]) (by decide) rfl ?_
      refine wa_pick [2, 3, 4, 1, 0] rfl ?_
      have hi6 : ∀ (n9_27 : Nat) (l4 : Int32), ((0 ≤ l4.toInt) ∧ (True)) → (2147483647 - l4.toInt).toNat = n9_27 → WA G M_X2_addAtom (ZM G M_X2_addAtom d (fun r σ' => ∃ x : Bool, r = some (.int (bI x)) ∧ Sm 13 15 σ σ' ∧ True)) B_X2_addAtom_27 [(0, .ref 7), (1, .int a0), (2, .int a1), (3, .int (gi σ 13 (v4).toNatClampNeg)), (4, .int l4)] [] σ := by
        intro n9_27
        induction n9_27 using Nat.strongRecOn with
        | _ n9_27 ih5 =>
          intro l4  i9 m9_27
          obtain ⟨jhi6_0, -⟩ := i9
          have ul4 := Int32.toInt_lt l4
          have wl4 := Int32.le_toInt l4
          refine wa_iload rfl ?_
          refine wa_iload_n (i := 3) rfl rfl ?_
          refine wa_icmp_ge o_X2_addAtom_64 (by decide) (fun h7 => ?_) (fun h7 => ?_)
          · refine wa_iload_n (i := 3) rfl rfl ?_
            refine wa_if_lt o_X2_addAtom_74 (by decide) (fun h8 => ?_) (fun h8 => ?_)
            · refine wa_iconst (v := 0) (by decide) ?_
              refine wa_zreturn false (rfl) rfl rfl ?_
              exact ⟨_, rfl, (Sm.rf 13 15 σ), trivial⟩
            · refine wa_iload_n (i := 3) rfl rfl ?_
              refine wa_bipush (v := 24) (by decide) ?_
              refine wa_icmp_lt o_X2_addAtom_76 (by decide) (fun h9 => ?_) (fun h9 => ?_)
              · refine wa_aload_n (i := 0) rfl rfl ?_
                refine wa_getr ck_2 fl_2_31 ly_7 rf_7_6 ?_
                refine wa_iload_n (i := 1) rfl rfl ?_
                refine wa_bipush (v := 24) (by decide) ?_
                refine wa_imul ?_
                refine wa_top (fun v10 hv10 => ?_)
                have tv10 := i_mulT hv10
                clear hv10
                refine wa_iload_n (i := 3) rfl rfl ?_
                refine wa_iadd ?_
                refine wa_top (fun v11 hv11 => ?_)
                have tv11 := i_addT hv11
                clear hv11
                refine wa_iload_n (i := 2) rfl rfl ?_
                refine wa_iast ly_14 (by ((try simp only [vp_in_iff, Int32.lt_iff_toInt_lt, Int32.le_iff_toInt_le, ← Int32.toInt_inj, Int32.reduceToInt, n_1, n_2, n_8, Int32.toNatClampNeg, Int64.lt_iff_toInt_lt, Int64.le_iff_toInt_le, ← Int64.toInt_inj, Int64.reduceToInt, Int32.toInt_toInt64, lg_cmp_ge, lg_cmp_le, lg_cmp_gt, lg_cmp_lt, lg_cmp_eq, Bool.false_eq_true, Bool.true_eq_false, reduceCtorEq, false_iff, true_iff, iff_true, iff_false, and_true, true_and, and_false, false_and, reduceIte, ite_true, ite_false, eq_self] at *)) <;> omega) (fun s12 hs12 => ?_)
                have Fs12 : Sm 13 15 σ s12 := by rw [hs12]; exact Sm.si (Sm.rf 13 15 σ) _ _ (by decide) (by decide)
                refine wa_aload_n (i := 0) rfl rfl ?_
                refine wa_getr ck_2 fl_2_28 ly_7 rf_7_5 ?_
                refine wa_iload_n (i := 1) rfl rfl ?_
                refine wa_bipush (v := 10) (by decide) ?_
                refine wa_imul ?_
                refine wa_top (fun v13 hv13 => ?_)
                have tv13 := i_mulT hv13
                clear hv13
                refine wa_iconst (v := 4) (by decide) ?_
                refine wa_iadd ?_
                refine wa_top (fun v14 hv14 => ?_)
                have tv14 := i_addT hv14
                clear hv14
                refine wa_iload_n (i := 3) rfl rfl ?_
                refine wa_iconst (v := 1) (by decide) ?_
                refine wa_iadd ?_
                refine wa_top (fun v15 hv15 => ?_)
                have tv15 := i_addT hv15
                clear hv15
                refine wa_iast ly_13 (by ((try simp only [vp_in_iff, Int32.lt_iff_toInt_lt, Int32.le_iff_toInt_le, ← Int32.toInt_inj, Int32.reduceToInt, n_1, n_2, n_8, Int32.toNatClampNeg, Int64.lt_iff_toInt_lt, Int64.le_iff_toInt_le, ← Int64.toInt_inj, Int64.reduceToInt, Int32.toInt_toInt64, lg_cmp_ge, lg_cmp_le, lg_cmp_gt, lg_cmp_lt, lg_cmp_eq, Bool.false_eq_true, Bool.true_eq_false, reduceCtorEq, false_iff, true_iff, iff_true, iff_false, and_true, true_and, and_false, false_and, reduceIte, ite_true, ite_false, eq_self] at *)) <;> omega) (fun s16 hs16 => ?_)
                have Fs16 : Sm 13 15 σ s16 := by rw [hs16]; exact Sm.si Fs12 _ _ (by decide) (by decide)
                refine wa_iconst (v := 1) (by decide) ?_
                refine wa_zreturn true (rfl) rfl rfl ?_
                exact ⟨_, rfl, Fs16, trivial⟩
              · refine wa_iconst (v := 0) (by decide) ?_
                refine wa_zreturn false (rfl) rfl rfl ?_
                exact ⟨_, rfl, (Sm.rf 13 15 σ), trivial⟩
          · have mh7 := nle_mx h7
            refine wa_iload rfl ?_
            refine wa_bipush (v := 24) (by decide) ?_
            refine wa_icmp_ge o_X2_addAtom_64 (by decide) (fun h17 => ?_) (fun h17 => ?_)
            · refine wa_iload_n (i := 3) rfl rfl ?_
              refine wa_if_lt o_X2_addAtom_74 (by decide) (fun h18 => ?_) (fun h18 => ?_)
              · refine wa_iconst (v := 0) (by decide) ?_
                refine wa_zreturn false (rfl) rfl rfl ?_
                exact ⟨_, rfl, (Sm.rf 13 15 σ), trivial⟩
              · refine wa_iload_n (i := 3) rfl rfl ?_
                refine wa_bipush (v := 24) (by decide) ?_
                refine wa_icmp_lt o_X2_addAtom_76 (by decide) (fun h19 => ?_) (fun h19 => ?_)
                · refine wa_aload_n (i := 0) rfl rfl ?_
                  refine wa_getr ck_2 fl_2_31 ly_7 rf_7_6 ?_
                  refine wa_iload_n (i := 1) rfl rfl ?_
                  refine wa_bipush (v := 24) (by decide) ?_
                  refine wa_imul ?_
                  refine wa_top (fun v20 hv20 => ?_)
                  have tv20 := i_mulT hv20
                  clear hv20
                  refine wa_iload_n (i := 3) rfl rfl ?_
                  refine wa_iadd ?_
                  refine wa_top (fun v21 hv21 => ?_)
                  have tv21 := i_addT hv21
                  clear hv21
                  refine wa_iload_n (i := 2) rfl rfl ?_
                  refine wa_iast ly_14 (by ((try simp only [vp_in_iff, Int32.lt_iff_toInt_lt, Int32.le_iff_toInt_le, ← Int32.toInt_inj, Int32.reduceToInt, n_1, n_2, n_8, Int32.toNatClampNeg, Int64.lt_iff_toInt_lt, Int64.le_iff_toInt_le, ← Int64.toInt_inj, Int64.reduceToInt, Int32.toInt_toInt64, lg_cmp_ge, lg_cmp_le, lg_cmp_gt, lg_cmp_lt, lg_cmp_eq, Bool.false_eq_true, Bool.true_eq_false, reduceCtorEq, false_iff, true_iff, iff_true, iff_false, and_true, true_and, and_false, false_and, reduceIte, ite_true, ite_false, eq_self] at *)) <;> omega) (fun s22 hs22 => ?_)
                  have Fs22 : Sm 13 15 σ s22 := by rw [hs22]; exact Sm.si (Sm.rf 13 15 σ) _ _ (by decide) (by decide)
                  refine wa_aload_n (i := 0) rfl rfl ?_
                  refine wa_getr ck_2 fl_2_28 ly_7 rf_7_5 ?_
                  refine wa_iload_n (i := 1) rfl rfl ?_
                  refine wa_bipush (v := 10) (by decide) ?_
                  refine wa_imul ?_
                  refine wa_top (fun v23 hv23 => ?_)
                  have tv23 := i_mulT hv23
                  clear hv23
                  refine wa_iconst (v := 4) (by decide) ?_
                  refine wa_iadd ?_
                  refine wa_top (fun v24 hv24 => ?_)
                  have tv24 := i_addT hv24
                  clear hv24
                  refine wa_iload_n (i := 3) rfl rfl ?_
                  refine wa_iconst (v := 1) (by decide) ?_
                  refine wa_iadd ?_
                  refine wa_top (fun v25 hv25 => ?_)
                  have tv25 := i_addT hv25
                  clear hv25
                  refine wa_iast ly_13 (by ((try simp only [vp_in_iff, Int32.lt_iff_toInt_lt, Int32.le_iff_toInt_le, ← Int32.toInt_inj, Int32.reduceToInt, n_1, n_2, n_8, Int32.toNatClampNeg, Int64.lt_iff_toInt_lt, Int64.le_iff_toInt_le, ← Int64.toInt_inj, Int64.reduceToInt, Int32.toInt_toInt64, lg_cmp_ge, lg_cmp_le, lg_cmp_gt, lg_cmp_lt, lg_cmp_eq, Bool.false_eq_true, Bool.true_eq_false, reduceCtorEq, false_iff, true_iff, iff_true, iff_false, and_true, true_and, and_false, false_and, reduceIte, ite_true, ite_false, eq_self] at *)) <;> omega) (fun s26 hs26 => ?_)
                  have Fs26 : Sm 13 15 σ s26 := by rw [hs26]; exact Sm.si Fs22 _ _ (by decide) (by decide)
                  refine wa_iconst (v := 1) (by decide) ?_
                  refine wa_zreturn true (rfl) rfl rfl ?_
                  exact ⟨_, rfl, Fs26, trivial⟩
                · refine wa_iconst (v := 0) (by decide) ?_
                  refine wa_zreturn false (rfl) rfl rfl ?_
                  exact ⟨_, rfl, (Sm.rf 13 15 σ), trivial⟩
            · have mh17 := nle_mx h17
              refine wa_aload_n (i := 0) rfl rfl ?_
              refine wa_getr ck_2 fl_2_31 ly_7 rf_7_6 ?_
              refine wa_iload_n (i := 1) rfl rfl ?_
              refine wa_bipush (v := 24) (by decide) ?_
              refine wa_imul ?_
              refine wa_top (fun v27 hv27 => ?_)
              have tv27 := i_mulT hv27
              clear hv27
              refine wa_iload rfl ?_
              refine wa_iadd ?_
              refine wa_top (fun v28 hv28 => ?_)
              have tv28 := i_addT hv28
              clear hv28
              refine wa_iald ly_14 (by ((try simp only [vp_in_iff, Int32.lt_iff_toInt_lt, Int32.le_iff_toInt_le, ← Int32.toInt_inj, Int32.reduceToInt, n_1, n_2, n_8, Int32.toNatClampNeg, Int64.lt_iff_toInt_lt, Int64.le_iff_toInt_le, ← Int64.toInt_inj, Int64.reduceToInt, Int32.toInt_toInt64, lg_cmp_ge, lg_cmp_le, lg_cmp_gt, lg_cmp_lt, lg_cmp_eq, Bool.false_eq_true, Bool.true_eq_false, reduceCtorEq, false_iff, true_iff, iff_true, iff_false, and_true, true_and, and_false, false_and, reduceIte, ite_true, ite_false, eq_self] at *)) <;> omega) ?_
              refine wa_iload_n (i := 2) rfl rfl ?_
              refine wa_icmp_ne o_X2_addAtom_58 (by decide) (fun h29 => ?_) (fun h29 => ?_)
              · refine wa_iinc (v := (1)) (lv' := fun y30 => [(4, .int y30), (0, .ref 7), (1, .int a0), (2, .int a1), (3, .int (gi σ 13 (v4).toNatClampNeg))]) (by decide) rfl (by decide) (fun _ => rfl) (fun y30 hy30 => ?_)
                have ty30 := i_addT hy30.symm
                clear hy30
                refine wa_goto o_X2_addAtom_27 (by decide) ?_
                refine wa_pick [1, 2, 3, 4, 0] rfl ?_
                exact ih5 _ (by ((try simp only [vp_in_iff, Int32.lt_iff_toInt_lt, Int32.le_iff_toInt_le, ← Int32.toInt_inj, Int32.reduceToInt, n_1, n_2, n_8, Int32.toNatClampNeg, Int64.lt_iff_toInt_lt, Int64.le_iff_toInt_le, ← Int64.toInt_inj, Int64.reduceToInt, Int32.toInt_toInt64, lg_cmp_ge, lg_cmp_le, lg_cmp_gt, lg_cmp_lt, lg_cmp_eq, Bool.false_eq_true, Bool.true_eq_false, reduceCtorEq, false_iff, true_iff, iff_true, iff_false, and_true, true_and, and_false, false_and, reduceIte, ite_true, ite_false, eq_self] at *)) <;> omega) _ ⟨(by ((try simp only [vp_in_iff, Int32.lt_iff_toInt_lt, Int32.le_iff_toInt_le, ← Int32.toInt_inj, Int32.reduceToInt, n_1, n_2, n_8, Int32.toNatClampNeg, Int64.lt_iff_toInt_lt, Int64.le_iff_toInt_le, ← Int64.toInt_inj, Int64.reduceToInt, Int32.toInt_toInt64, lg_cmp_ge, lg_cmp_le, lg_cmp_gt, lg_cmp_lt, lg_cmp_eq, Bool.false_eq_true, Bool.true_eq_false, reduceCtorEq, false_iff, true_iff, iff_true, iff_false, and_true, true_and, and_false, false_and, reduceIte, ite_true, ite_false, eq_self] at *)) <;> omega), trivial⟩ rfl
              · refine wa_iconst (v := 1) (by decide) ?_
                refine wa_zreturn true (rfl) rfl rfl ?_
                exact ⟨_, rfl, (Sm.rf 13 15 σ), trivial⟩
      exact hi6 _ _ ⟨(by ((try simp only [vp_in_iff, Int32.lt_iff_toInt_lt, Int32.le_iff_toInt_le, ← Int32.toInt_inj, Int32.reduceToInt, n_1, n_2, n_8, Int32.toNatClampNeg, Int64.lt_iff_toInt_lt, Int64.le_iff_toInt_le, ← Int64.toInt_inj, Int64.reduceToInt, Int32.toInt_toInt64, lg_cmp_ge, lg_cmp_le, lg_cmp_gt, lg_cmp_lt, lg_cmp_eq, Bool.false_eq_true, Bool.true_eq_false, reduceCtorEq, false_iff, true_iff, iff_true, iff_false, and_true, true_and, and_false, false_and, reduceIte, ite_true, ite_false, eq_self] at *)) <;> omega), trivial⟩ rfl
    · refine wa_iconst (v := 0) (by decide) ?_
      refine wa_zreturn false (rfl) rfl rfl ?_
      exact ⟨_, rfl, (Sm.rf 13 15 σ), trivial⟩
set_option maxHeartbeats 4000000 in
theorem sp_X2_allPlain (G : kG9) {d : Nat} (hd : 1 ≤ d) (σ : St) : Ct G M_X2_allPlain d [.ref 7] σ (fun r σ' => ∃ x : Bool, r = some (.int (bI x)) ∧ σ = σ' ∧ True) := by
  refine wa_start (by decide) rfl (Nat.le_of_ble_eq_true rfl) (lv := [(0, .ref 7)]) rfl o_X2_allPlain_0 rfl ?_
  refine wa_iconst (v := 0) (by decide) ?_
  refine wa_istore_nD (lv' := [(1, .int 0), (0, .ref 7)]) (i := 1) rfl (by decide) rfl ?_
  refine wa_pick [1, 0] rfl ?_
  have hi2 : ∀ (n9_2 : Nat) (l1 : Int32), ((0 ≤ l1.toInt) ∧ (True)) → (2147483647 - l1.toInt).toNat = n9_2 → WA G M_X2_allPlain (ZM G M_X2_allPlain d (fun r σ' => ∃ x : Bool, r = some (.int (bI x)) ∧ σ = σ' ∧ True)) B_X2_allPlain_2 [(0, .ref 7), (1, .int l1)] [] σ := by
    intro n9_2
    induction n9_2 using Nat.strongRecOn with
    | _ n9_2 ih1 =>
      intro l1  i9 m9_2
      obtain ⟨jhi2_0, -⟩ := i9
      have ul1 := Int32.toInt_lt l1
      have wl1 := Int32.le_toInt l1
      refine wa_iload_n (i := 1) rfl rfl ?_
      refine wa_aload_n (i := 0) rfl rfl ?_
      refine wa_geti ck_2 fl_2_55 ly_7 ?_
      refine wa_icmp_ge o_X2_allPlain_39 (by decide) (fun h3 => ?_) (fun h3 => ?_)
      · refine wa_iconst (v := 1) (by decide) ?_
        refine wa_zreturn true (rfl) rfl rfl ?_
        exact ⟨_, rfl, rfl, trivial⟩
      · have mh3 := nle_mx h3
        refine wa_aload_n (i := 0) rfl rfl ?_
        refine wa_geti ck_2 fl_2_61 ly_7 ?_
        refine wa_iload_n (i := 1) rfl rfl ?_
        refine wa_iushr ?_
        refine wa_top (fun v4 hv4 => ?_)
        clear hv4
        refine wa_iconst (v := 1) (by decide) ?_
        refine wa_iand ?_
        refine wa_top (fun v5 hv5 => ?_)
        have tv5 := i_andT hv5
        clear hv5
        refine wa_iconst (v := 1) (by decide) ?_
        refine wa_icmp_ne o_X2_allPlain_33 (by decide) (fun h6 => ?_) (fun h6 => ?_)
        · refine wa_iinc (v := (1)) (lv' := fun y7 => [(1, .int y7), (0, .ref 7)]) (by decide) rfl (by decide) (fun _ => rfl) (fun y7 hy7 => ?_)
          have ty7 := i_addT hy7.symm
          clear hy7
          refine wa_goto o_X2_allPlain_2 (by decide) ?_
          refine wa_pick [1, 0] rfl ?_
          exact ih1 _ (by ((try simp only [vp_in_iff, Int32.lt_iff_toInt_lt, Int32.le_iff_toInt_le, ← Int32.toInt_inj, Int32.reduceToInt, n_1, n_2, n_8, Int32.toNatClampNeg, Int64.lt_iff_toInt_lt, Int64.le_iff_toInt_le, ← Int64.toInt_inj, Int64.reduceToInt, Int32.toInt_toInt64, lg_cmp_ge, lg_cmp_le, lg_cmp_gt, lg_cmp_lt, lg_cmp_eq, Bool.false_eq_true, Bool.true_eq_false, reduceCtorEq, false_iff, true_iff, iff_true, iff_false, and_true, true_and, and_false, false_and, reduceIte, ite_true, ite_false, eq_self] at *)) <;> omega) _ ⟨(by ((try simp only [vp_in_iff, Int32.lt_iff_toInt_lt, Int32.le_iff_toInt_le, ← Int32.toInt_inj, Int32.reduceToInt, n_1, n_2, n_8, Int32.toNatClampNeg, Int64.lt_iff_toInt_lt, Int64.le_iff_toInt_le, ← Int64.toInt_inj, Int64.reduceToInt, Int32.toInt_toInt64, lg_cmp_ge, lg_cmp_le, lg_cmp_gt, lg_cmp_lt, lg_cmp_eq, Bool.false_eq_true, Bool.true_eq_false, reduceCtorEq, false_iff, true_iff, iff_true, iff_false, and_true, true_and, and_false, false_and, reduceIte, ite_true, ite_false, eq_self] at *)) <;> omega), trivial⟩ rfl
        · refine wa_aload_n (i := 0) rfl rfl ?_
          refine wa_iload_n (i := 1) rfl rfl ?_
          refine wa_iconst (v := 5) (by decide) ?_
          refine wa_Vi (d9 := d - 1) [.int _, .int _] [] (sp_X2_fact G (d := d - 1) (by omega) σ _ _) (rfl) rfl rfl (zr (by omega)) mk_X2_fact ly_7 ml_2_67 (Nat.le_of_ble_eq_true rfl) (fun x9 s8 hs8 => ?_)
          obtain ⟨zs8, -⟩ := pI hs8
          subst zs8
          refine wa_if_ne o_X2_allPlain_33 (by decide) (fun h10 => ?_) (fun h10 => ?_)
          · refine wa_iinc (v := (1)) (lv' := fun y11 => [(1, .int y11), (0, .ref 7)]) (by decide) rfl (by decide) (fun _ => rfl) (fun y11 hy11 => ?_)
            have ty11 := i_addT hy11.symm
            clear hy11
            refine wa_goto o_X2_allPlain_2 (by decide) ?_
            refine wa_pick [1, 0] rfl ?_
            exact ih1 _ (by ((try simp only [vp_in_iff, Int32.lt_iff_toInt_lt, Int32.le_iff_toInt_le, ← Int32.toInt_inj, Int32.reduceToInt, n_1, n_2, n_8, Int32.toNatClampNeg, Int64.lt_iff_toInt_lt, Int64.le_iff_toInt_le, ← Int64.toInt_inj, Int64.reduceToInt, Int32.toInt_toInt64, lg_cmp_ge, lg_cmp_le, lg_cmp_gt, lg_cmp_lt, lg_cmp_eq, Bool.false_eq_true, Bool.true_eq_false, reduceCtorEq, false_iff, true_iff, iff_true, iff_false, and_true, true_and, and_false, false_and, reduceIte, ite_true, ite_false, eq_self] at *)) <;> omega) _ ⟨(by ((try simp only [vp_in_iff, Int32.lt_iff_toInt_lt, Int32.le_iff_toInt_le, ← Int32.toInt_inj, Int32.reduceToInt, n_1, n_2, n_8, Int32.toNatClampNeg, Int64.lt_iff_toInt_lt, Int64.le_iff_toInt_le, ← Int64.toInt_inj, Int64.reduceToInt, Int32.toInt_toInt64, lg_cmp_ge, lg_cmp_le, lg_cmp_gt, lg_cmp_lt, lg_cmp_eq, Bool.false_eq_true, Bool.true_eq_false, reduceCtorEq, false_iff, true_iff, iff_true, iff_false, and_true, true_and, and_false, false_and, reduceIte, ite_true, ite_false, eq_self] at *)) <;> omega), trivial⟩ rfl
          · refine wa_iconst (v := 0) (by decide) ?_
            refine wa_zreturn false (rfl) rfl rfl ?_
            exact ⟨_, rfl, rfl, trivial⟩
  exact hi2 _ _ ⟨(by ((try simp only [vp_in_iff, Int32.lt_iff_toInt_lt, Int32.le_iff_toInt_le, ← Int32.toInt_inj, Int32.reduceToInt, n_1, n_2, n_8, Int32.toNatClampNeg, Int64.lt_iff_toInt_lt, Int64.le_iff_toInt_le, ← Int64.toInt_inj, Int64.reduceToInt, Int32.toInt_toInt64, lg_cmp_ge, lg_cmp_le, lg_cmp_gt, lg_cmp_lt, lg_cmp_eq, Bool.false_eq_true, Bool.true_eq_false, reduceCtorEq, false_iff, true_iff, iff_true, iff_false, and_true, true_and, and_false, false_and, reduceIte, ite_true, ite_false, eq_self] at *)) <;> omega), trivial⟩ rfl
set_option maxHeartbeats 4000000 in
theorem sp_X2_tightness (G : kG9) {d : Nat} (hd : 0 ≤ d) (σ : St) (a0 : Int32) : Ct G M_X2_tightness d [.int a0] σ (fun r σ' => ∃ x : Int32, r = some (.int x) ∧ σ = σ' ∧ True) := by
  refine wa_start (by decide) rfl (Nat.le_of_ble_eq_true rfl) (lv := [(0, .int a0)]) rfl o_X2_tightness_0 rfl ?_
  have ua0 := Int32.toInt_lt a0
  have wa0 := Int32.le_toInt a0
  refine wa_iload_n (i := 0) rfl rfl ?_
  refine wa_bipush (v := 23) (by decide) ?_
  refine wa_icmp_ne o_X2_tightness_10 (by decide) (fun h1 => ?_) (fun h1 => ?_)
  · refine wa_iload_n (i := 0) rfl rfl ?_
    refine wa_bipush (v := 24) (by decide) ?_
    refine wa_icmp_eq o_X2_tightness_28 (by decide) (fun h2 => ?_) (fun h2 => ?_)
    · refine wa_iconst (v := 1) (by decide) ?_
      refine wa_goto o_X2_tightness_33 (by decide) ?_
      refine wa_ireturn rfl rfl ?_
      exact ⟨_, rfl, rfl, trivial⟩
    · refine wa_iload_n (i := 0) rfl rfl ?_
      refine wa_bipush (v := 19) (by decide) ?_
      refine wa_icmp_eq o_X2_tightness_28 (by decide) (fun h3 => ?_) (fun h3 => ?_)
      · refine wa_iconst (v := 1) (by decide) ?_
        refine wa_goto o_X2_tightness_33 (by decide) ?_
        refine wa_ireturn rfl rfl ?_
        exact ⟨_, rfl, rfl, trivial⟩
      · refine wa_iload_n (i := 0) rfl rfl ?_
        refine wa_bipush (v := 20) (by decide) ?_
        refine wa_icmp_ne o_X2_tightness_32 (by decide) (fun h4 => ?_) (fun h4 => ?_)
        · refine wa_iconst (v := 0) (by decide) ?_
          refine wa_ireturn rfl rfl ?_
          exact ⟨_, rfl, rfl, trivial⟩
        · refine wa_iconst (v := 1) (by decide) ?_
          refine wa_goto o_X2_tightness_33 (by decide) ?_
          refine wa_ireturn rfl rfl ?_
          exact ⟨_, rfl, rfl, trivial⟩
  · refine wa_iconst (v := 2) (by decide) ?_
    refine wa_goto o_X2_tightness_33 (by decide) ?_
    refine wa_ireturn rfl rfl ?_
    exact ⟨_, rfl, rfl, trivial⟩
set_option maxHeartbeats 4000000 in
theorem sp_X3_spelled (G : kG9) {d : Nat} (hd : 4 ≤ d) (σ : St) (a0 : Int32) : Ct G M_X3_spelled d [.ref 18, .int a0] σ (fun r σ' => ∃ x : Int64, r = some (.long x) ∧ σ = σ' ∧ True) := by
  refine wa_start (by decide) rfl (Nat.le_of_ble_eq_true rfl) (lv := [(0, .ref 18), (1, .int a0)]) rfl o_X3_spelled_0 rfl ?_
  have ua0 := Int32.toInt_lt a0
  have wa0 := Int32.le_toInt a0
  refine wa_iload_n (i := 1) rfl rfl ?_
  refine wa_iconst (v := 4) (by decide) ?_
  refine wa_isub ?_
  refine wa_top (fun v1 hv1 => ?_)
  have tv1 := i_subT hv1
  clear hv1
  refine wa_istore_nD (lv' := [(2, .int v1), (0, .ref 18), (1, .int a0)]) (i := 2) rfl (by decide) rfl ?_
  refine wa_iload_n (i := 2) rfl rfl ?_
  refine wa_if_lt o_X3_spelled_22 (by decide) (fun h2 => ?_) (fun h2 => ?_)
  · refine wa_iload_n (i := 2) rfl rfl ?_
    refine wa_bipush (v := 12) (by decide) ?_
    refine wa_icmp_lt o_X3_spelled_53 (by decide) (fun h3 => ?_) (fun h3 => ?_)
    · refine wa_iload_n (i := 1) rfl rfl ?_
      refine wa_bipush (v := 21) (by decide) ?_
      refine wa_isub ?_
      refine wa_top (fun v4 hv4 => ?_)
      have tv4 := i_subT hv4
      clear hv4
      refine wa_istore_nD (lv' := [(3, .int v4), (2, .int v1), (0, .ref 18), (1, .int a0)]) (i := 3) rfl (by decide) rfl ?_
      refine wa_iload_n (i := 3) rfl rfl ?_
      refine wa_if_lt o_X3_spelled_80 (by decide) (fun h5 => ?_) (fun h5 => ?_)
      · refine wa_lconst (v := 0) (by decide) ?_
        refine wa_lreturn rfl rfl ?_
        exact ⟨_, rfl, rfl, trivial⟩
      · refine wa_iload_n (i := 3) rfl rfl ?_
        refine wa_aload_n (i := 0) rfl rfl ?_
        refine wa_getr ck_3 fl_3_11 ly_18 rf_18_0 ?_
        refine wa_alen ly_19 (by decide) ?_
        refine wa_rw (show Int32.ofNat 20 = 20 from rfl) ?_
        refine wa_icmp_ge o_X3_spelled_80 (by decide) (fun h6 => ?_) (fun h6 => ?_)
        · refine wa_lconst (v := 0) (by decide) ?_
          refine wa_lreturn rfl rfl ?_
          exact ⟨_, rfl, rfl, trivial⟩
        · have mh6 := nle_mx h6
          refine wa_aload_n (i := 0) rfl rfl ?_
          refine wa_getr ck_3 fl_3_11 ly_18 rf_18_0 ?_
          refine wa_iload_n (i := 3) rfl rfl ?_
          refine wa_lald ly_19 (by ((try simp only [vp_in_iff, Int32.lt_iff_toInt_lt, Int32.le_iff_toInt_le, ← Int32.toInt_inj, Int32.reduceToInt, n_1, n_2, n_8, Int32.toNatClampNeg, Int64.lt_iff_toInt_lt, Int64.le_iff_toInt_le, ← Int64.toInt_inj, Int64.reduceToInt, Int32.toInt_toInt64, lg_cmp_ge, lg_cmp_le, lg_cmp_gt, lg_cmp_lt, lg_cmp_eq, Bool.false_eq_true, Bool.true_eq_false, reduceCtorEq, false_iff, true_iff, iff_true, iff_false, and_true, true_and, and_false, false_and, reduceIte, ite_true, ite_false, eq_self] at *)) <;> omega) ?_
          refine wa_goto o_X3_spelled_81 (by decide) ?_
          refine wa_lreturn rfl rfl ?_
          exact ⟨_, rfl, rfl, trivial⟩
    · refine wa_iload_n (i := 2) rfl rfl ?_
      refine wa_bipush (v := 17) (by decide) ?_
      refine wa_icmp_ge o_X3_spelled_53 (by decide) (fun h7 => ?_) (fun h7 => ?_)
      · refine wa_iload_n (i := 1) rfl rfl ?_
        refine wa_bipush (v := 21) (by decide) ?_
        refine wa_isub ?_
        refine wa_top (fun v8 hv8 => ?_)
        have tv8 := i_subT hv8
        clear hv8
        refine wa_istore_nD (lv' := [(3, .int v8), (2, .int v1), (0, .ref 18), (1, .int a0)]) (i := 3) rfl (by decide) rfl ?_
        refine wa_iload_n (i := 3) rfl rfl ?_
        refine wa_if_lt o_X3_spelled_80 (by decide) (fun h9 => ?_) (fun h9 => ?_)
        · refine wa_lconst (v := 0) (by decide) ?_
          refine wa_lreturn rfl rfl ?_
          exact ⟨_, rfl, rfl, trivial⟩
        · refine wa_iload_n (i := 3) rfl rfl ?_
          refine wa_aload_n (i := 0) rfl rfl ?_
          refine wa_getr ck_3 fl_3_11 ly_18 rf_18_0 ?_
          refine wa_alen ly_19 (by decide) ?_
          refine wa_rw (show Int32.ofNat 20 = 20 from rfl) ?_
          refine wa_icmp_ge o_X3_spelled_80 (by decide) (fun h10 => ?_) (fun h10 => ?_)
          · refine wa_lconst (v := 0) (by decide) ?_
            refine wa_lreturn rfl rfl ?_
            exact ⟨_, rfl, rfl, trivial⟩
          · have mh10 := nle_mx h10
            refine wa_aload_n (i := 0) rfl rfl ?_
            refine wa_getr ck_3 fl_3_11 ly_18 rf_18_0 ?_
            refine wa_iload_n (i := 3) rfl rfl ?_
            refine wa_lald ly_19 (by ((try simp only [vp_in_iff, Int32.lt_iff_toInt_lt, Int32.le_iff_toInt_le, ← Int32.toInt_inj, Int32.reduceToInt, n_1, n_2, n_8, Int32.toNatClampNeg, Int64.lt_iff_toInt_lt, Int64.le_iff_toInt_le, ← Int64.toInt_inj, Int64.reduceToInt, Int32.toInt_toInt64, lg_cmp_ge, lg_cmp_le, lg_cmp_gt, lg_cmp_lt, lg_cmp_eq, Bool.false_eq_true, Bool.true_eq_false, reduceCtorEq, false_iff, true_iff, iff_true, iff_false, and_true, true_and, and_false, false_and, reduceIte, ite_true, ite_false, eq_self] at *)) <;> omega) ?_
            refine wa_goto o_X3_spelled_81 (by decide) ?_
            refine wa_lreturn rfl rfl ?_
            exact ⟨_, rfl, rfl, trivial⟩
      · have mh7 := nle_mx h7
        refine wa_ldcT kq_17 km_17 rfl rfl ?_
        refine wa_iload_n (i := 2) rfl rfl ?_
        refine wa_Ti (d9 := d - 1) kq_17 [.int _] [] (sp_J0_charAt_5068e G (d := d - 1) (by omega) σ kq_17 km_17 v1 (by ((try simp only [vp_in_iff, Int32.lt_iff_toInt_lt, Int32.le_iff_toInt_le, ← Int32.toInt_inj, Int32.reduceToInt, n_1, n_2, n_8, Int32.toNatClampNeg, Int64.lt_iff_toInt_lt, Int64.le_iff_toInt_le, ← Int64.toInt_inj, Int64.reduceToInt, Int32.toInt_toInt64, lg_cmp_ge, lg_cmp_le, lg_cmp_gt, lg_cmp_lt, lg_cmp_eq, Bool.false_eq_true, Bool.true_eq_false, reduceCtorEq, false_iff, true_iff, iff_true, iff_false, and_true, true_and, and_false, false_and, reduceIte, ite_true, ite_false, eq_self] at *)) <;> omega) (show (v1).toInt < 17 from by ((try simp only [vp_in_iff, Int32.lt_iff_toInt_lt, Int32.le_iff_toInt_le, ← Int32.toInt_inj, Int32.reduceToInt, n_1, n_2, n_8, Int32.toNatClampNeg, Int64.lt_iff_toInt_lt, Int64.le_iff_toInt_le, ← Int64.toInt_inj, Int64.reduceToInt, Int32.toInt_toInt64, lg_cmp_ge, lg_cmp_le, lg_cmp_gt, lg_cmp_lt, lg_cmp_eq, Bool.false_eq_true, Bool.true_eq_false, reduceCtorEq, false_iff, true_iff, iff_true, iff_false, and_true, true_and, and_false, false_and, reduceIte, ite_true, ite_false, eq_self] at *)) <;> omega)) rfl rfl rfl (zr (by omega)) mk_J0_charAt_5068e km_17 ml_3_44 (Nat.le_of_ble_eq_true rfl) (fun x11 s12 hs12 => ?_)
        obtain ⟨zs12, cx11, -⟩ := pI hs12
        subst zs12
        refine wa_i2l ?_
        refine wa_bipush (v := 8) (by decide) ?_
        refine wa_lshl ?_
        refine wa_topl (fun v13 hv13 => ?_)
        clear hv13
        refine wa_ldcT kq_16 km_16 rfl rfl ?_
        refine wa_iload_n (i := 2) rfl rfl ?_
        refine wa_Ti (d9 := d - 1) kq_16 [.int _] [.long v13] (sp_J0_charAt_5068e G (d := d - 1) (by omega) σ kq_16 km_16 v1 (by ((try simp only [vp_in_iff, Int32.lt_iff_toInt_lt, Int32.le_iff_toInt_le, ← Int32.toInt_inj, Int32.reduceToInt, n_1, n_2, n_8, Int32.toNatClampNeg, Int64.lt_iff_toInt_lt, Int64.le_iff_toInt_le, ← Int64.toInt_inj, Int64.reduceToInt, Int32.toInt_toInt64, lg_cmp_ge, lg_cmp_le, lg_cmp_gt, lg_cmp_lt, lg_cmp_eq, Bool.false_eq_true, Bool.true_eq_false, reduceCtorEq, false_iff, true_iff, iff_true, iff_false, and_true, true_and, and_false, false_and, reduceIte, ite_true, ite_false, eq_self] at *)) <;> omega) (show (v1).toInt < 17 from by ((try simp only [vp_in_iff, Int32.lt_iff_toInt_lt, Int32.le_iff_toInt_le, ← Int32.toInt_inj, Int32.reduceToInt, n_1, n_2, n_8, Int32.toNatClampNeg, Int64.lt_iff_toInt_lt, Int64.le_iff_toInt_le, ← Int64.toInt_inj, Int64.reduceToInt, Int32.toInt_toInt64, lg_cmp_ge, lg_cmp_le, lg_cmp_gt, lg_cmp_lt, lg_cmp_eq, Bool.false_eq_true, Bool.true_eq_false, reduceCtorEq, false_iff, true_iff, iff_true, iff_false, and_true, true_and, and_false, false_and, reduceIte, ite_true, ite_false, eq_self] at *)) <;> omega)) rfl rfl rfl (zr (by omega)) mk_J0_charAt_5068e km_16 ml_3_44 (Nat.le_of_ble_eq_true rfl) (fun x14 s15 hs15 => ?_)
        obtain ⟨zs15, cx14, -⟩ := pI hs15
        subst zs15
        refine wa_i2l ?_
        refine wa_lor ?_
        refine wa_topl (fun v16 hv16 => ?_)
        clear hv16
        refine wa_lreturn rfl rfl ?_
        exact ⟨_, rfl, rfl, trivial⟩
  · refine wa_iload_n (i := 2) rfl rfl ?_
    refine wa_bipush (v := 12) (by decide) ?_
    refine wa_icmp_ge o_X3_spelled_22 (by decide) (fun h17 => ?_) (fun h17 => ?_)
    · refine wa_iload_n (i := 2) rfl rfl ?_
      refine wa_bipush (v := 12) (by decide) ?_
      refine wa_icmp_lt o_X3_spelled_53 (by decide) (fun h18 => ?_) (fun h18 => ?_)
      · refine wa_iload_n (i := 1) rfl rfl ?_
        refine wa_bipush (v := 21) (by decide) ?_
        refine wa_isub ?_
        refine wa_top (fun v19 hv19 => ?_)
        have tv19 := i_subT hv19
        clear hv19
        refine wa_istore_nD (lv' := [(3, .int v19), (2, .int v1), (0, .ref 18), (1, .int a0)]) (i := 3) rfl (by decide) rfl ?_
        refine wa_iload_n (i := 3) rfl rfl ?_
        refine wa_if_lt o_X3_spelled_80 (by decide) (fun h20 => ?_) (fun h20 => ?_)
        · refine wa_lconst (v := 0) (by decide) ?_
          refine wa_lreturn rfl rfl ?_
          exact ⟨_, rfl, rfl, trivial⟩
        · refine wa_iload_n (i := 3) rfl rfl ?_
          refine wa_aload_n (i := 0) rfl rfl ?_
          refine wa_getr ck_3 fl_3_11 ly_18 rf_18_0 ?_
          refine wa_alen ly_19 (by decide) ?_
          refine wa_rw (show Int32.ofNat 20 = 20 from rfl) ?_
          refine wa_icmp_ge o_X3_spelled_80 (by decide) (fun h21 => ?_) (fun h21 => ?_)
          · refine wa_lconst (v := 0) (by decide) ?_
            refine wa_lreturn rfl rfl ?_
            exact ⟨_, rfl, rfl, trivial⟩
          · have mh21 := nle_mx h21
            refine wa_aload_n (i := 0) rfl rfl ?_
            refine wa_getr ck_3 fl_3_11 ly_18 rf_18_0 ?_
            refine wa_iload_n (i := 3) rfl rfl ?_
            refine wa_lald ly_19 (by ((try simp only [vp_in_iff, Int32.lt_iff_toInt_lt, Int32.le_iff_toInt_le, ← Int32.toInt_inj, Int32.reduceToInt, n_1, n_2, n_8, Int32.toNatClampNeg, Int64.lt_iff_toInt_lt, Int64.le_iff_toInt_le, ← Int64.toInt_inj, Int64.reduceToInt, Int32.toInt_toInt64, lg_cmp_ge, lg_cmp_le, lg_cmp_gt, lg_cmp_lt, lg_cmp_eq, Bool.false_eq_true, Bool.true_eq_false, reduceCtorEq, false_iff, true_iff, iff_true, iff_false, and_true, true_and, and_false, false_and, reduceIte, ite_true, ite_false, eq_self] at *)) <;> omega) ?_
            refine wa_goto o_X3_spelled_81 (by decide) ?_
            refine wa_lreturn rfl rfl ?_
            exact ⟨_, rfl, rfl, trivial⟩
      · refine wa_iload_n (i := 2) rfl rfl ?_
        refine wa_bipush (v := 17) (by decide) ?_
        refine wa_icmp_ge o_X3_spelled_53 (by decide) (fun h22 => ?_) (fun h22 => ?_)
        · refine wa_iload_n (i := 1) rfl rfl ?_
          refine wa_bipush (v := 21) (by decide) ?_
          refine wa_isub ?_
          refine wa_top (fun v23 hv23 => ?_)
          have tv23 := i_subT hv23
          clear hv23
          refine wa_istore_nD (lv' := [(3, .int v23), (2, .int v1), (0, .ref 18), (1, .int a0)]) (i := 3) rfl (by decide) rfl ?_
          refine wa_iload_n (i := 3) rfl rfl ?_
          refine wa_if_lt o_X3_spelled_80 (by decide) (fun h24 => ?_) (fun h24 => ?_)
          · refine wa_lconst (v := 0) (by decide) ?_
            refine wa_lreturn rfl rfl ?_
            exact ⟨_, rfl, rfl, trivial⟩
          · refine wa_iload_n (i := 3) rfl rfl ?_
            refine wa_aload_n (i := 0) rfl rfl ?_
            refine wa_getr ck_3 fl_3_11 ly_18 rf_18_0 ?_
            refine wa_alen ly_19 (by decide) ?_
            refine wa_rw (show Int32.ofNat 20 = 20 from rfl) ?_
            refine wa_icmp_ge o_X3_spelled_80 (by decide) (fun h25 => ?_) (fun h25 => ?_)
            · refine wa_lconst (v := 0) (by decide) ?_
              refine wa_lreturn rfl rfl ?_
              exact ⟨_, rfl, rfl, trivial⟩
            · have mh25 := nle_mx h25
              refine wa_aload_n (i := 0) rfl rfl ?_
              refine wa_getr ck_3 fl_3_11 ly_18 rf_18_0 ?_
              refine wa_iload_n (i := 3) rfl rfl ?_
              refine wa_lald ly_19 (by ((try simp only [vp_in_iff, Int32.lt_iff_toInt_lt, Int32.le_iff_toInt_le, ← Int32.toInt_inj, Int32.reduceToInt, n_1, n_2, n_8, Int32.toNatClampNeg, Int64.lt_iff_toInt_lt, Int64.le_iff_toInt_le, ← Int64.toInt_inj, Int64.reduceToInt, Int32.toInt_toInt64, lg_cmp_ge, lg_cmp_le, lg_cmp_gt, lg_cmp_lt, lg_cmp_eq, Bool.false_eq_true, Bool.true_eq_false, reduceCtorEq, false_iff, true_iff, iff_true, iff_false, and_true, true_and, and_false, false_and, reduceIte, ite_true, ite_false, eq_self] at *)) <;> omega) ?_
              refine wa_goto o_X3_spelled_81 (by decide) ?_
              refine wa_lreturn rfl rfl ?_
              exact ⟨_, rfl, rfl, trivial⟩
        · have mh22 := nle_mx h22
          refine wa_ldcT kq_17 km_17 rfl rfl ?_
          refine wa_iload_n (i := 2) rfl rfl ?_
          refine wa_Ti (d9 := d - 1) kq_17 [.int _] [] (sp_J0_charAt_5068e G (d := d - 1) (by omega) σ kq_17 km_17 v1 (by ((try simp only [vp_in_iff, Int32.lt_iff_toInt_lt, Int32.le_iff_toInt_le, ← Int32.toInt_inj, Int32.reduceToInt, n_1, n_2, n_8, Int32.toNatClampNeg, Int64.lt_iff_toInt_lt, Int64.le_iff_toInt_le, ← Int64.toInt_inj, Int64.reduceToInt, Int32.toInt_toInt64, lg_cmp_ge, lg_cmp_le, lg_cmp_gt, lg_cmp_lt, lg_cmp_eq, Bool.false_eq_true, Bool.true_eq_false, reduceCtorEq, false_iff, true_iff, iff_true, iff_false, and_true, true_and, and_false, false_and, reduceIte, ite_true, ite_false, eq_self] at *)) <;> omega) (show (v1).toInt < 17 from by ((try simp only [vp_in_iff, Int32.lt_iff_toInt_lt, Int32.le_iff_toInt_le, ← Int32.toInt_inj, Int32.reduceToInt, n_1, n_2, n_8, Int32.toNatClampNeg, Int64.lt_iff_toInt_lt, Int64.le_iff_toInt_le, ← Int64.toInt_inj, Int64.reduceToInt, Int32.toInt_toInt64, lg_cmp_ge, lg_cmp_le, lg_cmp_gt, lg_cmp_lt, lg_cmp_eq, Bool.false_eq_true, Bool.true_eq_false, reduceCtorEq, false_iff, true_iff, iff_true, iff_false, and_true, true_and, and_false, false_and, reduceIte, ite_true, ite_false, eq_self] at *)) <;> omega)) rfl rfl rfl (zr (by omega)) mk_J0_charAt_5068e km_17 ml_3_44 (Nat.le_of_ble_eq_true rfl) (fun x26 s27 hs27 => ?_)
          obtain ⟨zs27, cx26, -⟩ := pI hs27
          subst zs27
          refine wa_i2l ?_
          refine wa_bipush (v := 8) (by decide) ?_
          refine wa_lshl ?_
          refine wa_topl (fun v28 hv28 => ?_)
          clear hv28
          refine wa_ldcT kq_16 km_16 rfl rfl ?_
          refine wa_iload_n (i := 2) rfl rfl ?_
          refine wa_Ti (d9 := d - 1) kq_16 [.int _] [.long v28] (sp_J0_charAt_5068e G (d := d - 1) (by omega) σ kq_16 km_16 v1 (by ((try simp only [vp_in_iff, Int32.lt_iff_toInt_lt, Int32.le_iff_toInt_le, ← Int32.toInt_inj, Int32.reduceToInt, n_1, n_2, n_8, Int32.toNatClampNeg, Int64.lt_iff_toInt_lt, Int64.le_iff_toInt_le, ← Int64.toInt_inj, Int64.reduceToInt, Int32.toInt_toInt64, lg_cmp_ge, lg_cmp_le, lg_cmp_gt, lg_cmp_lt, lg_cmp_eq, Bool.false_eq_true, Bool.true_eq_false, reduceCtorEq, false_iff, true_iff, iff_true, iff_false, and_true, true_and, and_false, false_and, reduceIte, ite_true, ite_false, eq_self] at *)) <;> omega) (show (v1).toInt < 17 from by ((try simp only [vp_in_iff, Int32.lt_iff_toInt_lt, Int32.le_iff_toInt_le, ← Int32.toInt_inj, Int32.reduceToInt, n_1, n_2, n_8, Int32.toNatClampNeg, Int64.lt_iff_toInt_lt, Int64.le_iff_toInt_le, ← Int64.toInt_inj, Int64.reduceToInt, Int32.toInt_toInt64, lg_cmp_ge, lg_cmp_le, lg_cmp_gt, lg_cmp_lt, lg_cmp_eq, Bool.false_eq_true, Bool.true_eq_false, reduceCtorEq, false_iff, true_iff, iff_true, iff_false, and_true, true_and, and_false, false_and, reduceIte, ite_true, ite_false, eq_self] at *)) <;> omega)) rfl rfl rfl (zr (by omega)) mk_J0_charAt_5068e km_16 ml_3_44 (Nat.le_of_ble_eq_true rfl) (fun x29 s30 hs30 => ?_)
          obtain ⟨zs30, cx29, -⟩ := pI hs30
          subst zs30
          refine wa_i2l ?_
          refine wa_lor ?_
          refine wa_topl (fun v31 hv31 => ?_)
          clear hv31
          refine wa_lreturn rfl rfl ?_
          exact ⟨_, rfl, rfl, trivial⟩
    · have mh17 := nle_mx h17
      refine wa_ldcT kq_17 km_17 rfl rfl ?_
      refine wa_iload_n (i := 2) rfl rfl ?_
      refine wa_Ti (d9 := d - 1) kq_17 [.int _] [] (sp_J0_charAt_5068e G (d := d - 1) (by omega) σ kq_17 km_17 v1 (by ((try simp only [vp_in_iff, Int32.lt_iff_toInt_lt, Int32.le_iff_toInt_le, ← Int32.toInt_inj, Int32.reduceToInt, n_1, n_2, n_8, Int32.toNatClampNeg, Int64.lt_iff_toInt_lt, Int64.le_iff_toInt_le, ← Int64.toInt_inj, Int64.reduceToInt, Int32.toInt_toInt64, lg_cmp_ge, lg_cmp_le, lg_cmp_gt, lg_cmp_lt, lg_cmp_eq, Bool.false_eq_true, Bool.true_eq_false, reduceCtorEq, false_iff, true_iff, iff_true, iff_false, and_true, true_and, and_false, false_and, reduceIte, ite_true, ite_false, eq_self] at *)) <;> omega) (show (v1).toInt < 17 from by ((try simp only [vp_in_iff, Int32.lt_iff_toInt_lt, Int32.le_iff_toInt_le, ← Int32.toInt_inj, Int32.reduceToInt, n_1, n_2, n_8, Int32.toNatClampNeg, Int64.lt_iff_toInt_lt, Int64.le_iff_toInt_le, ← Int64.toInt_inj, Int64.reduceToInt, Int32.toInt_toInt64, lg_cmp_ge, lg_cmp_le, lg_cmp_gt, lg_cmp_lt, lg_cmp_eq, Bool.false_eq_true, Bool.true_eq_false, reduceCtorEq, false_iff, true_iff, iff_true, iff_false, and_true, true_and, and_false, false_and, reduceIte, ite_true, ite_false, eq_self] at *)) <;> omega)) rfl rfl rfl (zr (by omega)) mk_J0_charAt_5068e km_17 ml_3_44 (Nat.le_of_ble_eq_true rfl) (fun x32 s33 hs33 => ?_)
      obtain ⟨zs33, cx32, -⟩ := pI hs33
      subst zs33
      refine wa_i2l ?_
      refine wa_lreturn rfl rfl ?_
      exact ⟨_, rfl, rfl, trivial⟩
set_option maxHeartbeats 4000000 in
theorem sp_X3_spelledNumber (G : kG9) {d : Nat} (hd : 0 ≤ d) (σ : St) (a0 : Int32) : Ct G M_X3_spelledNumber d [.int a0] σ (fun r σ' => ∃ x : Int64, r = some (.long x) ∧ σ = σ' ∧ True) := by
  refine wa_start (by decide) rfl (Nat.le_of_ble_eq_true rfl) (lv := [(0, .int a0)]) rfl o_X3_spelledNumber_0 rfl ?_
  have ua0 := Int32.toInt_lt a0
  have wa0 := Int32.le_toInt a0
  refine wa_lconst (v := 0) (by decide) ?_
  refine wa_lstore_nD (lv' := [(1, .long 0), (0, .int a0)]) (i := 1) rfl (by decide) rfl ?_
  refine wa_iload_n (i := 0) rfl rfl ?_
  refine wa_ldc (v := (1048575)) (allW_in (kT_4 _ (List.mem_of_getElem? (i := 168) rfl)) rfl) ?_
  refine wa_iand ?_
  refine wa_top (fun v1 hv1 => ?_)
  have tv1 := i_andT hv1
  clear hv1
  refine wa_istore_nD (lv' := [(3, .int v1), (1, .long 0), (0, .int a0)]) (i := 3) rfl (by decide) rfl ?_
  refine wa_iload_n (i := 0) rfl rfl ?_
  refine wa_bipush (v := 20) (by decide) ?_
  refine wa_ishr ?_
  refine wa_top (fun v2 hv2 => ?_)
  clear hv2
  refine wa_bipush (v := 7) (by decide) ?_
  refine wa_iand ?_
  refine wa_top (fun v3 hv3 => ?_)
  have tv3 := i_andT hv3
  clear hv3
  refine wa_istoreD (lv' := [(4, .int v3), (3, .int v1), (1, .long 0), (0, .int a0)]) (by decide) rfl ?_
  refine wa_iconst (v := 0) (by decide) ?_
  refine wa_istoreD (lv' := [(5, .int 0), (4, .int v3), (3, .int v1), (1, .long 0), (0, .int a0)]) (by decide) rfl ?_
  refine wa_pick [3, 2, 1, 0] rfl ?_
  have hi5 : ∀ (n9_19 : Nat) (l1 : Int64) (l3 : Int32) (l5 : Int32), ((0 ≤ l5.toInt) ∧ (True)) → (2147483647 - l5.toInt).toNat = n9_19 → WA G M_X3_spelledNumber (ZM G M_X3_spelledNumber d (fun r σ' => ∃ x : Int64, r = some (.long x) ∧ σ = σ' ∧ True)) B_X3_spelledNumber_19 [(1, .long l1), (3, .int l3), (4, .int v3), (5, .int l5)] [] σ := by
    intro n9_19
    induction n9_19 using Nat.strongRecOn with
    | _ n9_19 ih4 =>
      intro l1 l3 l5  i9 m9_19
      obtain ⟨jhi5_0, -⟩ := i9
      have ul3 := Int32.toInt_lt l3
      have wl3 := Int32.le_toInt l3
      have ul5 := Int32.toInt_lt l5
      have wl5 := Int32.le_toInt l5
      refine wa_iload rfl ?_
      refine wa_iload rfl ?_
      refine wa_icmp_ge o_X3_spelledNumber_54 (by decide) (fun h6 => ?_) (fun h6 => ?_)
      · refine wa_lload_n (i := 1) rfl rfl ?_
        refine wa_lreturn rfl rfl ?_
        exact ⟨_, rfl, rfl, trivial⟩
      · have mh6 := nle_mx h6
        refine wa_lload_n (i := 1) rfl rfl ?_
        refine wa_bipush (v := 48) (by decide) ?_
        refine wa_iload_n (i := 3) rfl rfl ?_
        refine wa_bipush (v := 10) (by decide) ?_
        refine wa_irem (by ((try simp only [vp_in_iff, Int32.lt_iff_toInt_lt, Int32.le_iff_toInt_le, ← Int32.toInt_inj, Int32.reduceToInt, n_1, n_2, n_8, Int32.toNatClampNeg, Int64.lt_iff_toInt_lt, Int64.le_iff_toInt_le, ← Int64.toInt_inj, Int64.reduceToInt, Int32.toInt_toInt64, lg_cmp_ge, lg_cmp_le, lg_cmp_gt, lg_cmp_lt, lg_cmp_eq, Bool.false_eq_true, Bool.true_eq_false, reduceCtorEq, false_iff, true_iff, iff_true, iff_false, and_true, true_and, and_false, false_and, reduceIte, ite_true, ite_false, eq_self] at *)) <;> omega) ?_
        refine wa_top (fun v7 hv7 => ?_)
        have tv7 := i_remT hv7
        clear hv7
        refine wa_iadd ?_
        refine wa_top (fun v8 hv8 => ?_)
        have tv8 := i_addT hv8
        clear hv8
        refine wa_i2l ?_
        refine wa_bipush (v := 8) (by decide) ?_
        refine wa_iload rfl ?_
        refine wa_imul ?_
        refine wa_top (fun v9 hv9 => ?_)
        have tv9 := i_mulT hv9
        clear hv9
        refine wa_lshl ?_
        refine wa_topl (fun v10 hv10 => ?_)
        clear hv10
        refine wa_lor ?_
        refine wa_topl (fun v11 hv11 => ?_)
        clear hv11
        refine wa_lstore_nD (lv' := [(1, .long v11), (3, .int l3), (4, .int v3), (5, .int l5)]) (i := 1) rfl (by decide) rfl ?_
        refine wa_iload_n (i := 3) rfl rfl ?_
        refine wa_bipush (v := 10) (by decide) ?_
        refine wa_idiv (by ((try simp only [vp_in_iff, Int32.lt_iff_toInt_lt, Int32.le_iff_toInt_le, ← Int32.toInt_inj, Int32.reduceToInt, n_1, n_2, n_8, Int32.toNatClampNeg, Int64.lt_iff_toInt_lt, Int64.le_iff_toInt_le, ← Int64.toInt_inj, Int64.reduceToInt, Int32.toInt_toInt64, lg_cmp_ge, lg_cmp_le, lg_cmp_gt, lg_cmp_lt, lg_cmp_eq, Bool.false_eq_true, Bool.true_eq_false, reduceCtorEq, false_iff, true_iff, iff_true, iff_false, and_true, true_and, and_false, false_and, reduceIte, ite_true, ite_false, eq_self] at *)) <;> omega) ?_
        refine wa_top (fun v12 hv12 => ?_)
        have tv12 := i_divT hv12
        clear hv12
        refine wa_istore_nD (lv' := [(3, .int v12), (1, .long v11), (4, .int v3), (5, .int l5)]) (i := 3) rfl (by decide) rfl ?_
        refine wa_iinc (v := (1)) (lv' := fun y13 => [(5, .int y13), (3, .int v12), (1, .long v11), (4, .int v3)]) (by decide) rfl (by decide) (fun _ => rfl) (fun y13 hy13 => ?_)
        have ty13 := i_addT hy13.symm
        clear hy13
        refine wa_goto o_X3_spelledNumber_19 (by decide) ?_
        refine wa_pick [2, 1, 3, 0] rfl ?_
        exact ih4 _ (by ((try simp only [vp_in_iff, Int32.lt_iff_toInt_lt, Int32.le_iff_toInt_le, ← Int32.toInt_inj, Int32.reduceToInt, n_1, n_2, n_8, Int32.toNatClampNeg, Int64.lt_iff_toInt_lt, Int64.le_iff_toInt_le, ← Int64.toInt_inj, Int64.reduceToInt, Int32.toInt_toInt64, lg_cmp_ge, lg_cmp_le, lg_cmp_gt, lg_cmp_lt, lg_cmp_eq, Bool.false_eq_true, Bool.true_eq_false, reduceCtorEq, false_iff, true_iff, iff_true, iff_false, and_true, true_and, and_false, false_and, reduceIte, ite_true, ite_false, eq_self] at *)) <;> omega) _ _ _ ⟨(by ((try simp only [vp_in_iff, Int32.lt_iff_toInt_lt, Int32.le_iff_toInt_le, ← Int32.toInt_inj, Int32.reduceToInt, n_1, n_2, n_8, Int32.toNatClampNeg, Int64.lt_iff_toInt_lt, Int64.le_iff_toInt_le, ← Int64.toInt_inj, Int64.reduceToInt, Int32.toInt_toInt64, lg_cmp_ge, lg_cmp_le, lg_cmp_gt, lg_cmp_lt, lg_cmp_eq, Bool.false_eq_true, Bool.true_eq_false, reduceCtorEq, false_iff, true_iff, iff_true, iff_false, and_true, true_and, and_false, false_and, reduceIte, ite_true, ite_false, eq_self] at *)) <;> omega), trivial⟩ rfl
  exact hi5 _ _ _ _ ⟨(by ((try simp only [vp_in_iff, Int32.lt_iff_toInt_lt, Int32.le_iff_toInt_le, ← Int32.toInt_inj, Int32.reduceToInt, n_1, n_2, n_8, Int32.toNatClampNeg, Int64.lt_iff_toInt_lt, Int64.le_iff_toInt_le, ← Int64.toInt_inj, Int64.reduceToInt, Int32.toInt_toInt64, lg_cmp_ge, lg_cmp_le, lg_cmp_gt, lg_cmp_lt, lg_cmp_eq, Bool.false_eq_true, Bool.true_eq_false, reduceCtorEq, false_iff, true_iff, iff_true, iff_false, and_true, true_and, and_false, false_and, reduceIte, ite_true, ite_false, eq_self] at *)) <;> omega), trivial⟩ rfl
set_option maxHeartbeats 4000000 in
theorem sp_X2_showByte (G : kG9) {d : Nat} (hd : 0 ≤ d) (σ : St) (a0 : Int32) : Ct G M_X2_showByte d [.ref 7, .int a0] σ (fun r σ' => Sm 7 18 σ σ' ∧ True) := by
  refine wa_start (by decide) rfl (Nat.le_of_ble_eq_true rfl) (lv := [(0, .ref 7), (1, .int a0)]) rfl o_X2_showByte_0 rfl ?_
  have ua0 := Int32.toInt_lt a0
  have wa0 := Int32.le_toInt a0
  refine wa_aload_n (i := 0) rfl rfl ?_
  refine wa_geti ck_2 fl_2_71 ly_7 ?_
  refine wa_if_lt o_X2_showByte_38 (by decide) (fun h1 => ?_) (fun h1 => ?_)
  · refine wa_return (st := []) rfl rfl ?_
    exact ⟨(Sm.rf 7 18 σ), trivial⟩
  · refine wa_aload_n (i := 0) rfl rfl ?_
    refine wa_geti ck_2 fl_2_71 ly_7 ?_
    refine wa_sipush (v := 1200) (by decide) ?_
    refine wa_icmp_ge o_X2_showByte_38 (by decide) (fun h2 => ?_) (fun h2 => ?_)
    · refine wa_return (st := []) rfl rfl ?_
      exact ⟨(Sm.rf 7 18 σ), trivial⟩
    · have mh2 := nle_mx h2
      refine wa_aload_n (i := 0) rfl rfl ?_
      refine wa_getr ck_2 fl_2_40 ly_7 rf_7_9 ?_
      refine wa_aload_n (i := 0) rfl rfl ?_
      refine wa_geti ck_2 fl_2_71 ly_7 ?_
      refine wa_iload_n (i := 1) rfl rfl ?_
      refine wa_i2b ?_
      refine wa_top (fun v3 hv3 => ?_)
      clear hv3
      refine wa_bast ly_17 (by ((try simp only [vp_in_iff, Int32.lt_iff_toInt_lt, Int32.le_iff_toInt_le, ← Int32.toInt_inj, Int32.reduceToInt, n_1, n_2, n_8, Int32.toNatClampNeg, Int64.lt_iff_toInt_lt, Int64.le_iff_toInt_le, ← Int64.toInt_inj, Int64.reduceToInt, Int32.toInt_toInt64, lg_cmp_ge, lg_cmp_le, lg_cmp_gt, lg_cmp_lt, lg_cmp_eq, Bool.false_eq_true, Bool.true_eq_false, reduceCtorEq, false_iff, true_iff, iff_true, iff_false, and_true, true_and, and_false, false_and, reduceIte, ite_true, ite_false, eq_self] at *)) <;> omega) (fun s4 hs4 => ?_)
      have Fs4 : Sm 7 18 σ s4 := by rw [hs4]; exact Sm.sy (Sm.rf 7 18 σ) _ _ (by decide) (by decide)
      refine wa_aload_n (i := 0) rfl rfl ?_
      refine wa_dup rfl ?_
      refine wa_geti ck_2 fl_2_71 ly_7 ?_
      refine wa_rw (nx_gi_sy hs4) ?_
      refine wa_iconst (v := 1) (by decide) ?_
      refine wa_iadd ?_
      refine wa_top (fun v5 hv5 => ?_)
      have tv5 := i_addT hv5
      clear hv5
      refine wa_puti ck_2 fl_2_71 ly_7 (fun s6 hs6 => ?_)
      have Fs6 : Sm 7 18 σ s6 := by rw [hs6]; exact Sm.si Fs4 _ _ (by decide) (by decide)
      refine wa_return (st := []) rfl rfl ?_
      exact ⟨Fs6, trivial⟩
set_option maxHeartbeats 4000000 in
theorem sp_X2_showToken (G : kG9) {d : Nat} (hd : 5 ≤ d) (σ : St) (a0 : Int32) : Ct G M_X2_showToken d [.ref 7, .int a0, .ref 18] σ (fun r σ' => Sm 7 18 σ σ' ∧ True) := by
  refine wa_start (by decide) rfl (Nat.le_of_ble_eq_true rfl) (lv := [(0, .ref 7), (1, .int a0), (2, .ref 18)]) rfl o_X2_showToken_0 rfl ?_
  have ua0 := Int32.toInt_lt a0
  have wa0 := Int32.le_toInt a0
  refine wa_iload_n (i := 1) rfl rfl ?_
  refine wa_bipush (v := 63) (by decide) ?_
  refine wa_iand ?_
  refine wa_top (fun v1 hv1 => ?_)
  have tv1 := i_andT hv1
  clear hv1
  refine wa_istore_nD (lv' := [(3, .int v1), (0, .ref 7), (1, .int a0), (2, .ref 18)]) (i := 3) rfl (by decide) rfl ?_
  refine wa_iload_n (i := 1) rfl rfl ?_
  refine wa_bipush (v := 6) (by decide) ?_
  refine wa_ishr ?_
  refine wa_top (fun v2 hv2 => ?_)
  clear hv2
  refine wa_istoreD (lv' := [(4, .int v2), (3, .int v1), (0, .ref 7), (1, .int a0), (2, .ref 18)]) (by decide) rfl ?_
  refine wa_aload_n (i := 2) rfl rfl ?_
  refine wa_iload_n (i := 3) rfl rfl ?_
  refine wa_Vl (d9 := d - 1) [.int _] [] (sp_X3_spelled G (d := d - 1) (by omega) σ _) (rfl) rfl rfl (zr (by omega)) mk_X3_spelled ly_18 ml_2_107 (Nat.le_of_ble_eq_true rfl) (fun x4 s3 hs3 => ?_)
  obtain ⟨zs3, -⟩ := pL hs3
  subst zs3
  refine wa_lstoreD (lv' := [(5, .long x4), (4, .int v2), (3, .int v1), (0, .ref 7), (1, .int a0), (2, .ref 18)]) (by decide) rfl ?_
  refine wa_iload_n (i := 3) rfl rfl ?_
  refine wa_iconst (v := 2) (by decide) ?_
  refine wa_icmp_ne o_X2_showToken_33 (by decide) (fun h5 => ?_) (fun h5 => ?_)
  · refine wa_iload_n (i := 3) rfl rfl ?_
    refine wa_bipush (v := 41) (by decide) ?_
    refine wa_icmp_ne o_X2_showToken_62 (by decide) (fun h6 => ?_) (fun h6 => ?_)
    · refine wa_iload_n (i := 3) rfl rfl ?_
      refine wa_bipush (v := 42) (by decide) ?_
      refine wa_icmp_ne o_X2_showToken_89 (by decide) (fun h7 => ?_) (fun h7 => ?_)
      · refine wa_aload_n (i := 0) rfl rfl ?_
        refine wa_geti ck_2 fl_2_71 ly_7 ?_
        refine wa_if_le o_X2_showToken_102 (by decide) (fun h8 => ?_) (fun h8 => ?_)
        · refine wa_bipush (v := 56) (by decide) ?_
          refine wa_istoreD (lv' := [(7, .int 56), (5, .long x4), (4, .int v2), (3, .int v1), (0, .ref 7), (1, .int a0), (2, .ref 18)]) (by decide) rfl ?_
          refine wa_pick [4, 1, 0] rfl ?_
          have hi11 : ∀ (n9_106 : Nat) (l7 : Int32) (s9 : St), ((Sm 7 18 σ s9) ∧ (True)) → (l7.toInt + 8).toNat = n9_106 → WA G M_X2_showToken (ZM G M_X2_showToken d (fun r σ' => Sm 7 18 σ σ' ∧ True)) B_X2_showToken_106 [(0, .ref 7), (5, .long x4), (7, .int l7)] [] s9 := by
            intro n9_106
            induction n9_106 using Nat.strongRecOn with
            | _ n9_106 ih10 =>
              intro l7 s9 i9 m9_106
              obtain ⟨Fs9, -⟩ := i9
              have ul7 := Int32.toInt_lt l7
              have wl7 := Int32.le_toInt l7
              refine wa_iload rfl ?_
              refine wa_if_lt o_X2_showToken_140 (by decide) (fun h12 => ?_) (fun h12 => ?_)
              · refine wa_return (st := []) rfl rfl ?_
                exact ⟨Fs9, trivial⟩
              · refine wa_lload rfl ?_
                refine wa_iload rfl ?_
                refine wa_lushr ?_
                refine wa_topl (fun v13 hv13 => ?_)
                clear hv13
                refine wa_l2i ?_
                refine wa_top (fun v14 hv14 => ?_)
                clear hv14
                refine wa_sipush (v := 255) (by decide) ?_
                refine wa_iand ?_
                refine wa_top (fun v15 hv15 => ?_)
                have tv15 := i_andT hv15
                clear hv15
                refine wa_istoreD (lv' := [(8, .int v15), (0, .ref 7), (5, .long x4), (7, .int l7)]) (by decide) rfl ?_
                refine wa_iload rfl ?_
                refine wa_if_eq o_X2_showToken_134 (by decide) (fun h16 => ?_) (fun h16 => ?_)
                · refine wa_iinc (v := (-8)) (lv' := fun y17 => [(7, .int y17), (8, .int v15), (0, .ref 7), (5, .long x4)]) (by decide) rfl (by decide) (fun _ => rfl) (fun y17 hy17 => ?_)
                  have ty17 := i_addT hy17.symm
                  clear hy17
                  refine wa_goto o_X2_showToken_106 (by decide) ?_
                  refine wa_pick [2, 3, 0] rfl ?_
                  exact ih10 _ (by ((try simp only [vp_in_iff, Int32.lt_iff_toInt_lt, Int32.le_iff_toInt_le, ← Int32.toInt_inj, Int32.reduceToInt, n_1, n_2, n_8, Int32.toNatClampNeg, Int64.lt_iff_toInt_lt, Int64.le_iff_toInt_le, ← Int64.toInt_inj, Int64.reduceToInt, Int32.toInt_toInt64, lg_cmp_ge, lg_cmp_le, lg_cmp_gt, lg_cmp_lt, lg_cmp_eq, Bool.false_eq_true, Bool.true_eq_false, reduceCtorEq, false_iff, true_iff, iff_true, iff_false, and_true, true_and, and_false, false_and, reduceIte, ite_true, ite_false, eq_self] at *)) <;> omega) _ _ ⟨Fs9, trivial⟩ rfl
                · refine wa_aload_n (i := 0) rfl rfl ?_
                  refine wa_iload rfl ?_
                  refine wa_Vv (d9 := d - 1) [.int _] [] (sp_X2_showByte G (d := d - 1) (by omega) s9 _) (rfl) rfl rfl (zr (by omega)) mk_X2_showByte ly_7 ml_2_116 (Nat.le_of_ble_eq_true rfl) (fun s18 hs18 => ?_)
                  obtain ⟨fs18, -⟩ := hs18
                  have Fs18 := Sm.tr Fs9 (Sm.wd fs18 (lo' := 7) (hi' := 18) (by decide) (by decide))
                  refine wa_iinc (v := (-8)) (lv' := fun y20 => [(7, .int y20), (8, .int v15), (0, .ref 7), (5, .long x4)]) (by decide) rfl (by decide) (fun _ => rfl) (fun y20 hy20 => ?_)
                  have ty20 := i_addT hy20.symm
                  clear hy20
                  refine wa_goto o_X2_showToken_106 (by decide) ?_
                  refine wa_pick [2, 3, 0] rfl ?_
                  exact ih10 _ (by ((try simp only [vp_in_iff, Int32.lt_iff_toInt_lt, Int32.le_iff_toInt_le, ← Int32.toInt_inj, Int32.reduceToInt, n_1, n_2, n_8, Int32.toNatClampNeg, Int64.lt_iff_toInt_lt, Int64.le_iff_toInt_le, ← Int64.toInt_inj, Int64.reduceToInt, Int32.toInt_toInt64, lg_cmp_ge, lg_cmp_le, lg_cmp_gt, lg_cmp_lt, lg_cmp_eq, Bool.false_eq_true, Bool.true_eq_false, reduceCtorEq, false_iff, true_iff, iff_true, iff_false, and_true, true_and, and_false, false_and, reduceIte, ite_true, ite_false, eq_self] at *)) <;> omega) _ _ ⟨Fs18, trivial⟩ rfl
          exact hi11 _ _ _ ⟨(Sm.rf 7 18 σ), trivial⟩ rfl
        · refine wa_aload_n (i := 0) rfl rfl ?_
          refine wa_bipush (v := 32) (by decide) ?_
          refine wa_Vv (d9 := d - 1) [.int _] [] (sp_X2_showByte G (d := d - 1) (by omega) σ _) (rfl) rfl rfl (zr (by omega)) mk_X2_showByte ly_7 ml_2_116 (Nat.le_of_ble_eq_true rfl) (fun s21 hs21 => ?_)
          obtain ⟨fs21, -⟩ := hs21
          have Fs21 := Sm.tr (Sm.rf 7 18 σ) (Sm.wd fs21 (lo' := 7) (hi' := 18) (by decide) (by decide))
          refine wa_bipush (v := 56) (by decide) ?_
          refine wa_istoreD (lv' := [(7, .int 56), (5, .long x4), (4, .int v2), (3, .int v1), (0, .ref 7), (1, .int a0), (2, .ref 18)]) (by decide) rfl ?_
          refine wa_pick [4, 1, 0] rfl ?_
          have hi25 : ∀ (n9_106 : Nat) (l7 : Int32) (s23 : St), ((Sm 7 18 σ s23) ∧ (True)) → (l7.toInt + 8).toNat = n9_106 → WA G M_X2_showToken (ZM G M_X2_showToken d (fun r σ' => Sm 7 18 σ σ' ∧ True)) B_X2_showToken_106 [(0, .ref 7), (5, .long x4), (7, .int l7)] [] s23 := by
            intro n9_106
            induction n9_106 using Nat.strongRecOn with
            | _ n9_106 ih24 =>
              intro l7 s23 i9 m9_106
              obtain ⟨Fs23, -⟩ := i9
              have ul7 := Int32.toInt_lt l7
              have wl7 := Int32.le_toInt l7
              refine wa_iload rfl ?_
              refine wa_if_lt o_X2_showToken_140 (by decide) (fun h26 => ?_) (fun h26 => ?_)
              · refine wa_return (st := []) rfl rfl ?_
                exact ⟨Fs23, trivial⟩
              · refine wa_lload rfl ?_
                refine wa_iload rfl ?_
                refine wa_lushr ?_
                refine wa_topl (fun v27 hv27 => ?_)
                clear hv27
                refine wa_l2i ?_
                refine wa_top (fun v28 hv28 => ?_)
                clear hv28
                refine wa_sipush (v := 255) (by decide) ?_
                refine wa_iand ?_
                refine wa_top (fun v29 hv29 => ?_)
                have tv29 := i_andT hv29
                clear hv29
                refine wa_istoreD (lv' := [(8, .int v29), (0, .ref 7), (5, .long x4), (7, .int l7)]) (by decide) rfl ?_
                refine wa_iload rfl ?_
                refine wa_if_eq o_X2_showToken_134 (by decide) (fun h30 => ?_) (fun h30 => ?_)
                · refine wa_iinc (v := (-8)) (lv' := fun y31 => [(7, .int y31), (8, .int v29), (0, .ref 7), (5, .long x4)]) (by decide) rfl (by decide) (fun _ => rfl) (fun y31 hy31 => ?_)
                  have ty31 := i_addT hy31.symm
                  clear hy31
                  refine wa_goto o_X2_showToken_106 (by decide) ?_
                  refine wa_pick [2, 3, 0] rfl ?_
                  exact ih24 _ (by ((try simp only [vp_in_iff, Int32.lt_iff_toInt_lt, Int32.le_iff_toInt_le, ← Int32.toInt_inj, Int32.reduceToInt, n_1, n_2, n_8, Int32.toNatClampNeg, Int64.lt_iff_toInt_lt, Int64.le_iff_toInt_le, ← Int64.toInt_inj, Int64.reduceToInt, Int32.toInt_toInt64, lg_cmp_ge, lg_cmp_le, lg_cmp_gt, lg_cmp_lt, lg_cmp_eq, Bool.false_eq_true, Bool.true_eq_false, reduceCtorEq, false_iff, true_iff, iff_true, iff_false, and_true, true_and, and_false, false_and, reduceIte, ite_true, ite_false, eq_self] at *)) <;> omega) _ _ ⟨Fs23, trivial⟩ rfl
                · refine wa_aload_n (i := 0) rfl rfl ?_
                  refine wa_iload rfl ?_
                  refine wa_Vv (d9 := d - 1) [.int _] [] (sp_X2_showByte G (d := d - 1) (by omega) s23 _) (rfl) rfl rfl (zr (by omega)) mk_X2_showByte ly_7 ml_2_116 (Nat.le_of_ble_eq_true rfl) (fun s32 hs32 => ?_)
                  obtain ⟨fs32, -⟩ := hs32
                  have Fs32 := Sm.tr Fs23 (Sm.wd fs32 (lo' := 7) (hi' := 18) (by decide) (by decide))
                  refine wa_iinc (v := (-8)) (lv' := fun y34 => [(7, .int y34), (8, .int v29), (0, .ref 7), (5, .long x4)]) (by decide) rfl (by decide) (fun _ => rfl) (fun y34 hy34 => ?_)
                  have ty34 := i_addT hy34.symm
                  clear hy34
                  refine wa_goto o_X2_showToken_106 (by decide) ?_
                  refine wa_pick [2, 3, 0] rfl ?_
                  exact ih24 _ (by ((try simp only [vp_in_iff, Int32.lt_iff_toInt_lt, Int32.le_iff_toInt_le, ← Int32.toInt_inj, Int32.reduceToInt, n_1, n_2, n_8, Int32.toNatClampNeg, Int64.lt_iff_toInt_lt, Int64.le_iff_toInt_le, ← Int64.toInt_inj, Int64.reduceToInt, Int32.toInt_toInt64, lg_cmp_ge, lg_cmp_le, lg_cmp_gt, lg_cmp_lt, lg_cmp_eq, Bool.false_eq_true, Bool.true_eq_false, reduceCtorEq, false_iff, true_iff, iff_true, iff_false, and_true, true_and, and_false, false_and, reduceIte, ite_true, ite_false, eq_self] at *)) <;> omega) _ _ ⟨Fs32, trivial⟩ rfl
          exact hi25 _ _ _ ⟨Fs21, trivial⟩ rfl
      · refine wa_iload rfl ?_
        refine wa_if_lt o_X2_showToken_89 (by decide) (fun h35 => ?_) (fun h35 => ?_)
        · refine wa_aload_n (i := 0) rfl rfl ?_
          refine wa_geti ck_2 fl_2_71 ly_7 ?_
          refine wa_if_le o_X2_showToken_102 (by decide) (fun h36 => ?_) (fun h36 => ?_)
          · refine wa_bipush (v := 56) (by decide) ?_
            refine wa_istoreD (lv' := [(7, .int 56), (5, .long x4), (4, .int v2), (3, .int v1), (0, .ref 7), (1, .int a0), (2, .ref 18)]) (by decide) rfl ?_
            refine wa_pick [4, 1, 0] rfl ?_
            have hi39 : ∀ (n9_106 : Nat) (l7 : Int32) (s37 : St), ((Sm 7 18 σ s37) ∧ (True)) → (l7.toInt + 8).toNat = n9_106 → WA G M_X2_showToken (ZM G M_X2_showToken d (fun r σ' => Sm 7 18 σ σ' ∧ True)) B_X2_showToken_106 [(0, .ref 7), (5, .long x4), (7, .int l7)] [] s37 := by
              intro n9_106
              induction n9_106 using Nat.strongRecOn with
              | _ n9_106 ih38 =>
                intro l7 s37 i9 m9_106
                obtain ⟨Fs37, -⟩ := i9
                have ul7 := Int32.toInt_lt l7
                have wl7 := Int32.le_toInt l7
                refine wa_iload rfl ?_
                refine wa_if_lt o_X2_showToken_140 (by decide) (fun h40 => ?_) (fun h40 => ?_)
                · refine wa_return (st := []) rfl rfl ?_
                  exact ⟨Fs37, trivial⟩
                · refine wa_lload rfl ?_
                  refine wa_iload rfl ?_
                  refine wa_lushr ?_
                  refine wa_topl (fun v41 hv41 => ?_)
                  clear hv41
                  refine wa_l2i ?_
                  refine wa_top (fun v42 hv42 => ?_)
                  clear hv42
                  refine wa_sipush (v := 255) (by decide) ?_
                  refine wa_iand ?_
                  refine wa_top (fun v43 hv43 => ?_)
                  have tv43 := i_andT hv43
                  clear hv43
                  refine wa_istoreD (lv' := [(8, .int v43), (0, .ref 7), (5, .long x4), (7, .int l7)]) (by decide) rfl ?_
                  refine wa_iload rfl ?_
                  refine wa_if_eq o_X2_showToken_134 (by decide) (fun h44 => ?_) (fun h44 => ?_)
                  · refine wa_iinc (v := (-8)) (lv' := fun y45 => [(7, .int y45), (8, .int v43), (0, .ref 7), (5, .long x4)]) (by decide) rfl (by decide) (fun _ => rfl) (fun y45 hy45 => ?_)
                    have ty45 := i_addT hy45.symm
                    clear hy45
                    refine wa_goto o_X2_showToken_106 (by decide) ?_
                    refine wa_pick [2, 3, 0] rfl ?_
                    exact ih38 _ (by ((try simp only [vp_in_iff, Int32.lt_iff_toInt_lt, Int32.le_iff_toInt_le, ← Int32.toInt_inj, Int32.reduceToInt, n_1, n_2, n_8, Int32.toNatClampNeg, Int64.lt_iff_toInt_lt, Int64.le_iff_toInt_le, ← Int64.toInt_inj, Int64.reduceToInt, Int32.toInt_toInt64, lg_cmp_ge, lg_cmp_le, lg_cmp_gt, lg_cmp_lt, lg_cmp_eq, Bool.false_eq_true, Bool.true_eq_false, reduceCtorEq, false_iff, true_iff, iff_true, iff_false, and_true, true_and, and_false, false_and, reduceIte, ite_true, ite_false, eq_self] at *)) <;> omega) _ _ ⟨Fs37, trivial⟩ rfl
                  · refine wa_aload_n (i := 0) rfl rfl ?_
                    refine wa_iload rfl ?_
                    refine wa_Vv (d9 := d - 1) [.int _] [] (sp_X2_showByte G (d := d - 1) (by omega) s37 _) (rfl) rfl rfl (zr (by omega)) mk_X2_showByte ly_7 ml_2_116 (Nat.le_of_ble_eq_true rfl) (fun s46 hs46 => ?_)
                    obtain ⟨fs46, -⟩ := hs46
                    have Fs46 := Sm.tr Fs37 (Sm.wd fs46 (lo' := 7) (hi' := 18) (by decide) (by decide))
                    refine wa_iinc (v := (-8)) (lv' := fun y48 => [(7, .int y48), (8, .int v43), (0, .ref 7), (5, .long x4)]) (by decide) rfl (by decide) (fun _ => rfl) (fun y48 hy48 => ?_)
                    have ty48 := i_addT hy48.symm
                    clear hy48
                    refine wa_goto o_X2_showToken_106 (by decide) ?_
                    refine wa_pick [2, 3, 0] rfl ?_
                    exact ih38 _ (by ((try simp only [vp_in_iff, Int32.lt_iff_toInt_lt, Int32.le_iff_toInt_le, ← Int32.toInt_inj, Int32.reduceToInt, n_1, n_2, n_8, Int32.toNatClampNeg, Int64.lt_iff_toInt_lt, Int64.le_iff_toInt_le, ← Int64.toInt_inj, Int64.reduceToInt, Int32.toInt_toInt64, lg_cmp_ge, lg_cmp_le, lg_cmp_gt, lg_cmp_lt, lg_cmp_eq, Bool.false_eq_true, Bool.true_eq_false, reduceCtorEq, false_iff, true_iff, iff_true, iff_false, and_true, true_and, and_false, false_and, reduceIte, ite_true, ite_false, eq_self] at *)) <;> omega) _ _ ⟨Fs46, trivial⟩ rfl
            exact hi39 _ _ _ ⟨(Sm.rf 7 18 σ), trivial⟩ rfl
          · refine wa_aload_n (i := 0) rfl rfl ?_
            refine wa_bipush (v := 32) (by decide) ?_
            refine wa_Vv (d9 := d - 1) [.int _] [] (sp_X2_showByte G (d := d - 1) (by omega) σ _) (rfl) rfl rfl (zr (by omega)) mk_X2_showByte ly_7 ml_2_116 (Nat.le_of_ble_eq_true rfl) (fun s49 hs49 => ?_)
            obtain ⟨fs49, -⟩ := hs49
            have Fs49 := Sm.tr (Sm.rf 7 18 σ) (Sm.wd fs49 (lo' := 7) (hi' := 18) (by decide) (by decide))
            refine wa_bipush (v := 56) (by decide) ?_
            refine wa_istoreD (lv' := [(7, .int 56), (5, .long x4), (4, .int v2), (3, .int v1), (0, .ref 7), (1, .int a0), (2, .ref 18)]) (by decide) rfl ?_
            refine wa_pick [4, 1, 0] rfl ?_
            have hi53 : ∀ (n9_106 : Nat) (l7 : Int32) (s51 : St), ((Sm 7 18 σ s51) ∧ (True)) → (l7.toInt + 8).toNat = n9_106 → WA G M_X2_showToken (ZM G M_X2_showToken d (fun r σ' => Sm 7 18 σ σ' ∧ True)) B_X2_showToken_106 [(0, .ref 7), (5, .long x4), (7, .int l7)] [] s51 := by
              intro n9_106
              induction n9_106 using Nat.strongRecOn with
              | _ n9_106 ih52 =>
                intro l7 s51 i9 m9_106
                obtain ⟨Fs51, -⟩ := i9
                have ul7 := Int32.toInt_lt l7
                have wl7 := Int32.le_toInt l7
                refine wa_iload rfl ?_
                refine wa_if_lt o_X2_showToken_140 (by decide) (fun h54 => ?_) (fun h54 => ?_)
                · refine wa_return (st := []) rfl rfl ?_
                  exact ⟨Fs51, trivial⟩
                · refine wa_lload rfl ?_
                  refine wa_iload rfl ?_
                  refine wa_lushr ?_
                  refine wa_topl (fun v55 hv55 => ?_)
                  clear hv55
                  refine wa_l2i ?_
                  refine wa_top (fun v56 hv56 => ?_)
                  clear hv56
                  refine wa_sipush (v := 255) (by decide) ?_
                  refine wa_iand ?_
                  refine wa_top (fun v57 hv57 => ?_)
                  have tv57 := i_andT hv57
                  clear hv57
                  refine wa_istoreD (lv' := [(8, .int v57), (0, .ref 7), (5, .long x4), (7, .int l7)]) (by decide) rfl ?_
                  refine wa_iload rfl ?_
                  refine wa_if_eq o_X2_showToken_134 (by decide) (fun h58 => ?_) (fun h58 => ?_)
                  · refine wa_iinc (v := (-8)) (lv' := fun y59 => [(7, .int y59), (8, .int v57), (0, .ref 7), (5, .long x4)]) (by decide) rfl (by decide) (fun _ => rfl) (fun y59 hy59 => ?_)
                    have ty59 := i_addT hy59.symm
                    clear hy59
                    refine wa_goto o_X2_showToken_106 (by decide) ?_
                    refine wa_pick [2, 3, 0] rfl ?_
                    exact ih52 _ (by ((try simp only [vp_in_iff, Int32.lt_iff_toInt_lt, Int32.le_iff_toInt_le, ← Int32.toInt_inj, Int32.reduceToInt, n_1, n_2, n_8, Int32.toNatClampNeg, Int64.lt_iff_toInt_lt, Int64.le_iff_toInt_le, ← Int64.toInt_inj, Int64.reduceToInt, Int32.toInt_toInt64, lg_cmp_ge, lg_cmp_le, lg_cmp_gt, lg_cmp_lt, lg_cmp_eq, Bool.false_eq_true, Bool.true_eq_false, reduceCtorEq, false_iff, true_iff, iff_true, iff_false, and_true, true_and, and_false, false_and, reduceIte, ite_true, ite_false, eq_self] at *)) <;> omega) _ _ ⟨Fs51, trivial⟩ rfl
                  · refine wa_aload_n (i := 0) rfl rfl ?_
                    refine wa_iload rfl ?_
                    refine wa_Vv (d9 := d - 1) [.int _] [] (sp_X2_showByte G (d := d - 1) (by omega) s51 _) (rfl) rfl rfl (zr (by omega)) mk_X2_showByte ly_7 ml_2_116 (Nat.le_of_ble_eq_true rfl) (fun s60 hs60 => ?_)
                    obtain ⟨fs60, -⟩ := hs60
                    have Fs60 := Sm.tr Fs51 (Sm.wd fs60 (lo' := 7) (hi' := 18) (by decide) (by decide))
                    refine wa_iinc (v := (-8)) (lv' := fun y62 => [(7, .int y62), (8, .int v57), (0, .ref 7), (5, .long x4)]) (by decide) rfl (by decide) (fun _ => rfl) (fun y62 hy62 => ?_)
                    have ty62 := i_addT hy62.symm
                    clear hy62
                    refine wa_goto o_X2_showToken_106 (by decide) ?_
                    refine wa_pick [2, 3, 0] rfl ?_
                    exact ih52 _ (by ((try simp only [vp_in_iff, Int32.lt_iff_toInt_lt, Int32.le_iff_toInt_le, ← Int32.toInt_inj, Int32.reduceToInt, n_1, n_2, n_8, Int32.toNatClampNeg, Int64.lt_iff_toInt_lt, Int64.le_iff_toInt_le, ← Int64.toInt_inj, Int64.reduceToInt, Int32.toInt_toInt64, lg_cmp_ge, lg_cmp_le, lg_cmp_gt, lg_cmp_lt, lg_cmp_eq, Bool.false_eq_true, Bool.true_eq_false, reduceCtorEq, false_iff, true_iff, iff_true, iff_false, and_true, true_and, and_false, false_and, reduceIte, ite_true, ite_false, eq_self] at *)) <;> omega) _ _ ⟨Fs60, trivial⟩ rfl
            exact hi53 _ _ _ ⟨Fs49, trivial⟩ rfl
        · refine wa_iload rfl ?_
          refine wa_bipush (v := 24) (by decide) ?_
          refine wa_icmp_ge o_X2_showToken_89 (by decide) (fun h63 => ?_) (fun h63 => ?_)
          · refine wa_aload_n (i := 0) rfl rfl ?_
            refine wa_geti ck_2 fl_2_71 ly_7 ?_
            refine wa_if_le o_X2_showToken_102 (by decide) (fun h64 => ?_) (fun h64 => ?_)
            · refine wa_bipush (v := 56) (by decide) ?_
              refine wa_istoreD (lv' := [(7, .int 56), (5, .long x4), (4, .int v2), (3, .int v1), (0, .ref 7), (1, .int a0), (2, .ref 18)]) (by decide) rfl ?_
              refine wa_pick [4, 1, 0] rfl ?_
              have hi67 : ∀ (n9_106 : Nat) (l7 : Int32) (s65 : St), ((Sm 7 18 σ s65) ∧ (True)) → (l7.toInt + 8).toNat = n9_106 → WA G M_X2_showToken (ZM G M_X2_showToken d (fun r σ' => Sm 7 18 σ σ' ∧ True)) B_X2_showToken_106 [(0, .ref 7), (5, .long x4), (7, .int l7)] [] s65 := by
                intro n9_106
                induction n9_106 using Nat.strongRecOn with
                | _ n9_106 ih66 =>
                  intro l7 s65 i9 m9_106
                  obtain ⟨Fs65, -⟩ := i9
                  have ul7 := Int32.toInt_lt l7
                  have wl7 := Int32.le_toInt l7
                  refine wa_iload rfl ?_
                  refine wa_if_lt o_X2_showToken_140 (by decide) (fun h68 => ?_) (fun h68 => ?_)
                  · refine wa_return (st := []) rfl rfl ?_
                    exact ⟨Fs65, trivial⟩
                  · refine wa_lload rfl ?_
                    refine wa_iload rfl ?_
                    refine wa_lushr ?_
                    refine wa_topl (fun v69 hv69 => ?_)
                    clear hv69
                    refine wa_l2i ?_
                    refine wa_top (fun v70 hv70 => ?_)
                    clear hv70
                    refine wa_sipush (v := 255) (by decide) ?_
                    refine wa_iand ?_
                    refine wa_top (fun v71 hv71 => ?_)
                    have tv71 := i_andT hv71
                    clear hv71
                    refine wa_istoreD (lv' := [(8, .int v71), (0, .ref 7), (5, .long x4), (7, .int l7)]) (by decide) rfl ?_
                    refine wa_iload rfl ?_
                    refine wa_if_eq o_X2_showToken_134 (by decide) (fun h72 => ?_) (fun h72 => ?_)
                    · refine wa_iinc (v := (-8)) (lv' := fun y73 => [(7, .int y73), (8, .int v71), (0, .ref 7), (5, .long x4)]) (by decide) rfl (by decide) (fun _ => rfl) (fun y73 hy73 => ?_)
                      have ty73 := i_addT hy73.symm
                      clear hy73
                      refine wa_goto o_X2_showToken_106 (by decide) ?_
                      refine wa_pick [2, 3, 0] rfl ?_
                      exact ih66 _ (by ((try simp only [vp_in_iff, Int32.lt_iff_toInt_lt, Int32.le_iff_toInt_le, ← Int32.toInt_inj, Int32.reduceToInt, n_1, n_2, n_8, Int32.toNatClampNeg, Int64.lt_iff_toInt_lt, Int64.le_iff_toInt_le, ← Int64.toInt_inj, Int64.reduceToInt, Int32.toInt_toInt64, lg_cmp_ge, lg_cmp_le, lg_cmp_gt, lg_cmp_lt, lg_cmp_eq, Bool.false_eq_true, Bool.true_eq_false, reduceCtorEq, false_iff, true_iff, iff_true, iff_false, and_true, true_and, and_false, false_and, reduceIte, ite_true, ite_false, eq_self] at *)) <;> omega) _ _ ⟨Fs65, trivial⟩ rfl
                    · refine wa_aload_n (i := 0) rfl rfl ?_
                      refine wa_iload rfl ?_
                      refine wa_Vv (d9 := d - 1) [.int _] [] (sp_X2_showByte G (d := d - 1) (by omega) s65 _) (rfl) rfl rfl (zr (by omega)) mk_X2_showByte ly_7 ml_2_116 (Nat.le_of_ble_eq_true rfl) (fun s74 hs74 => ?_)
                      obtain ⟨fs74, -⟩ := hs74
                      have Fs74 := Sm.tr Fs65 (Sm.wd fs74 (lo' := 7) (hi' := 18) (by decide) (by decide))
                      refine wa_iinc (v := (-8)) (lv' := fun y76 => [(7, .int y76), (8, .int v71), (0, .ref 7), (5, .long x4)]) (by decide) rfl (by decide) (fun _ => rfl) (fun y76 hy76 => ?_)
                      have ty76 := i_addT hy76.symm
                      clear hy76
                      refine wa_goto o_X2_showToken_106 (by decide) ?_
                      refine wa_pick [2, 3, 0] rfl ?_
                      exact ih66 _ (by ((try simp only [vp_in_iff, Int32.lt_iff_toInt_lt, Int32.le_iff_toInt_le, ← Int32.toInt_inj, Int32.reduceToInt, n_1, n_2, n_8, Int32.toNatClampNeg, Int64.lt_iff_toInt_lt, Int64.le_iff_toInt_le, ← Int64.toInt_inj, Int64.reduceToInt, Int32.toInt_toInt64, lg_cmp_ge, lg_cmp_le, lg_cmp_gt, lg_cmp_lt, lg_cmp_eq, Bool.false_eq_true, Bool.true_eq_false, reduceCtorEq, false_iff, true_iff, iff_true, iff_false, and_true, true_and, and_false, false_and, reduceIte, ite_true, ite_false, eq_self] at *)) <;> omega) _ _ ⟨Fs74, trivial⟩ rfl
              exact hi67 _ _ _ ⟨(Sm.rf 7 18 σ), trivial⟩ rfl
            · refine wa_aload_n (i := 0) rfl rfl ?_
              refine wa_bipush (v := 32) (by decide) ?_
              refine wa_Vv (d9 := d - 1) [.int _] [] (sp_X2_showByte G (d := d - 1) (by omega) σ _) (rfl) rfl rfl (zr (by omega)) mk_X2_showByte ly_7 ml_2_116 (Nat.le_of_ble_eq_true rfl) (fun s77 hs77 => ?_)
              obtain ⟨fs77, -⟩ := hs77
              have Fs77 := Sm.tr (Sm.rf 7 18 σ) (Sm.wd fs77 (lo' := 7) (hi' := 18) (by decide) (by decide))
              refine wa_bipush (v := 56) (by decide) ?_
              refine wa_istoreD (lv' := [(7, .int 56), (5, .long x4), (4, .int v2), (3, .int v1), (0, .ref 7), (1, .int a0), (2, .ref 18)]) (by decide) rfl ?_
              refine wa_pick [4, 1, 0] rfl ?_
              have hi81 : ∀ (n9_106 : Nat) (l7 : Int32) (s79 : St), ((Sm 7 18 σ s79) ∧ (True)) → (l7.toInt + 8).toNat = n9_106 → WA G M_X2_showToken (ZM G M_X2_showToken d (fun r σ' => Sm 7 18 σ σ' ∧ True)) B_X2_showToken_106 [(0, .ref 7), (5, .long x4), (7, .int l7)] [] s79 := by
                intro n9_106
                induction n9_106 using Nat.strongRecOn with
                | _ n9_106 ih80 =>
                  intro l7 s79 i9 m9_106
                  obtain ⟨Fs79, -⟩ := i9
                  have ul7 := Int32.toInt_lt l7
                  have wl7 := Int32.le_toInt l7
                  refine wa_iload rfl ?_
                  refine wa_if_lt o_X2_showToken_140 (by decide) (fun h82 => ?_) (fun h82 => ?_)
                  · refine wa_return (st := []) rfl rfl ?_
                    exact ⟨Fs79, trivial⟩
                  · refine wa_lload rfl ?_
                    refine wa_iload rfl ?_
                    refine wa_lushr ?_
                    refine wa_topl (fun v83 hv83 => ?_)
                    clear hv83
                    refine wa_l2i ?_
                    refine wa_top (fun v84 hv84 => ?_)
                    clear hv84
                    refine wa_sipush (v := 255) (by decide) ?_
                    refine wa_iand ?_
                    refine wa_top (fun v85 hv85 => ?_)
                    have tv85 := i_andT hv85
                    clear hv85
                    refine wa_istoreD (lv' := [(8, .int v85), (0, .ref 7), (5, .long x4), (7, .int l7)]) (by decide) rfl ?_
                    refine wa_iload rfl ?_
                    refine wa_if_eq o_X2_showToken_134 (by decide) (fun h86 => ?_) (fun h86 => ?_)
                    · refine wa_iinc (v := (-8)) (lv' := fun y87 => [(7, .int y87), (8, .int v85), (0, .ref 7), (5, .long x4)]) (by decide) rfl (by decide) (fun _ => rfl) (fun y87 hy87 => ?_)
                      have ty87 := i_addT hy87.symm
                      clear hy87
                      refine wa_goto o_X2_showToken_106 (by decide) ?_
                      refine wa_pick [2, 3, 0] rfl ?_
                      exact ih80 _ (by ((try simp only [vp_in_iff, Int32.lt_iff_toInt_lt, Int32.le_iff_toInt_le, ← Int32.toInt_inj, Int32.reduceToInt, n_1, n_2, n_8, Int32.toNatClampNeg, Int64.lt_iff_toInt_lt, Int64.le_iff_toInt_le, ← Int64.toInt_inj, Int64.reduceToInt, Int32.toInt_toInt64, lg_cmp_ge, lg_cmp_le, lg_cmp_gt, lg_cmp_lt, lg_cmp_eq, Bool.false_eq_true, Bool.true_eq_false, reduceCtorEq, false_iff, true_iff, iff_true, iff_false, and_true, true_and, and_false, false_and, reduceIte, ite_true, ite_false, eq_self] at *)) <;> omega) _ _ ⟨Fs79, trivial⟩ rfl
                    · refine wa_aload_n (i := 0) rfl rfl ?_
                      refine wa_iload rfl ?_
                      refine wa_Vv (d9 := d - 1) [.int _] [] (sp_X2_showByte G (d := d - 1) (by omega) s79 _) (rfl) rfl rfl (zr (by omega)) mk_X2_showByte ly_7 ml_2_116 (Nat.le_of_ble_eq_true rfl) (fun s88 hs88 => ?_)
                      obtain ⟨fs88, -⟩ := hs88
                      have Fs88 := Sm.tr Fs79 (Sm.wd fs88 (lo' := 7) (hi' := 18) (by decide) (by decide))
                      refine wa_iinc (v := (-8)) (lv' := fun y90 => [(7, .int y90), (8, .int v85), (0, .ref 7), (5, .long x4)]) (by decide) rfl (by decide) (fun _ => rfl) (fun y90 hy90 => ?_)
                      have ty90 := i_addT hy90.symm
                      clear hy90
                      refine wa_goto o_X2_showToken_106 (by decide) ?_
                      refine wa_pick [2, 3, 0] rfl ?_
                      exact ih80 _ (by ((try simp only [vp_in_iff, Int32.lt_iff_toInt_lt, Int32.le_iff_toInt_le, ← Int32.toInt_inj, Int32.reduceToInt, n_1, n_2, n_8, Int32.toNatClampNeg, Int64.lt_iff_toInt_lt, Int64.le_iff_toInt_le, ← Int64.toInt_inj, Int64.reduceToInt, Int32.toInt_toInt64, lg_cmp_ge, lg_cmp_le, lg_cmp_gt, lg_cmp_lt, lg_cmp_eq, Bool.false_eq_true, Bool.true_eq_false, reduceCtorEq, false_iff, true_iff, iff_true, iff_false, and_true, true_and, and_false, false_and, reduceIte, ite_true, ite_false, eq_self] at *)) <;> omega) _ _ ⟨Fs88, trivial⟩ rfl
              exact hi81 _ _ _ ⟨Fs77, trivial⟩ rfl
          · have mh63 := nle_mx h63
            refine wa_aload_n (i := 0) rfl rfl ?_
            refine wa_getr ck_2 fl_2_15 ly_7 rf_7_1 ?_
            refine wa_iload rfl ?_
            refine wa_lald ly_9 (by ((try simp only [vp_in_iff, Int32.lt_iff_toInt_lt, Int32.le_iff_toInt_le, ← Int32.toInt_inj, Int32.reduceToInt, n_1, n_2, n_8, Int32.toNatClampNeg, Int64.lt_iff_toInt_lt, Int64.le_iff_toInt_le, ← Int64.toInt_inj, Int64.reduceToInt, Int32.toInt_toInt64, lg_cmp_ge, lg_cmp_le, lg_cmp_gt, lg_cmp_lt, lg_cmp_eq, Bool.false_eq_true, Bool.true_eq_false, reduceCtorEq, false_iff, true_iff, iff_true, iff_false, and_true, true_and, and_false, false_and, reduceIte, ite_true, ite_false, eq_self] at *)) <;> omega) ?_
            refine wa_lstoreD (lv' := [(5, .long (gl σ 9 (v2).toNatClampNeg)), (4, .int v2), (3, .int v1), (0, .ref 7), (1, .int a0), (2, .ref 18)]) (by decide) rfl ?_
            refine wa_aload_n (i := 0) rfl rfl ?_
            refine wa_geti ck_2 fl_2_71 ly_7 ?_
            refine wa_if_le o_X2_showToken_102 (by decide) (fun h91 => ?_) (fun h91 => ?_)
            · refine wa_bipush (v := 56) (by decide) ?_
              refine wa_istoreD (lv' := [(7, .int 56), (5, .long (gl σ 9 (v2).toNatClampNeg)), (4, .int v2), (3, .int v1), (0, .ref 7), (1, .int a0), (2, .ref 18)]) (by decide) rfl ?_
              refine wa_pick [4, 1, 0] rfl ?_
              have hi94 : ∀ (n9_106 : Nat) (l7 : Int32) (s92 : St), ((Sm 7 18 σ s92) ∧ (True)) → (l7.toInt + 8).toNat = n9_106 → WA G M_X2_showToken (ZM G M_X2_showToken d (fun r σ' => Sm 7 18 σ σ' ∧ True)) B_X2_showToken_106 [(0, .ref 7), (5, .long (gl σ 9 (v2).toNatClampNeg)), (7, .int l7)] [] s92 := by
                intro n9_106
                induction n9_106 using Nat.strongRecOn with
                | _ n9_106 ih93 =>
                  intro l7 s92 i9 m9_106
                  obtain ⟨Fs92, -⟩ := i9
                  have ul7 := Int32.toInt_lt l7
                  have wl7 := Int32.le_toInt l7
                  refine wa_iload rfl ?_
                  refine wa_if_lt o_X2_showToken_140 (by decide) (fun h95 => ?_) (fun h95 => ?_)
                  · refine wa_return (st := []) rfl rfl ?_
                    exact ⟨Fs92, trivial⟩
                  · refine wa_lload rfl ?_
                    refine wa_iload rfl ?_
                    refine wa_lushr ?_
                    refine wa_topl (fun v96 hv96 => ?_)
                    clear hv96
                    refine wa_l2i ?_
                    refine wa_top (fun v97 hv97 => ?_)
                    clear hv97
                    refine wa_sipush (v := 255) (by decide) ?_
                    refine wa_iand ?_
                    refine wa_top (fun v98 hv98 => ?_)
                    have tv98 := i_andT hv98
                    clear hv98
                    refine wa_istoreD (lv' := [(8, .int v98), (0, .ref 7), (5, .long (gl σ 9 (v2).toNatClampNeg)), (7, .int l7)]) (by decide) rfl ?_
                    refine wa_iload rfl ?_
                    refine wa_if_eq o_X2_showToken_134 (by decide) (fun h99 => ?_) (fun h99 => ?_)
                    · refine wa_iinc (v := (-8)) (lv' := fun y100 => [(7, .int y100), (8, .int v98), (0, .ref 7), (5, .long (gl σ 9 (v2).toNatClampNeg))]) (by decide) rfl (by decide) (fun _ => rfl) (fun y100 hy100 => ?_)
                      have ty100 := i_addT hy100.symm
                      clear hy100
                      refine wa_goto o_X2_showToken_106 (by decide) ?_
                      refine wa_pick [2, 3, 0] rfl ?_
                      exact ih93 _ (by ((try simp only [vp_in_iff, Int32.lt_iff_toInt_lt, Int32.le_iff_toInt_le, ← Int32.toInt_inj, Int32.reduceToInt, n_1, n_2, n_8, Int32.toNatClampNeg, Int64.lt_iff_toInt_lt, Int64.le_iff_toInt_le, ← Int64.toInt_inj, Int64.reduceToInt, Int32.toInt_toInt64, lg_cmp_ge, lg_cmp_le, lg_cmp_gt, lg_cmp_lt, lg_cmp_eq, Bool.false_eq_true, Bool.true_eq_false, reduceCtorEq, false_iff, true_iff, iff_true, iff_false, and_true, true_and, and_false, false_and, reduceIte, ite_true, ite_false, eq_self] at *)) <;> omega) _ _ ⟨Fs92, trivial⟩ rfl
                    · refine wa_aload_n (i := 0) rfl rfl ?_
                      refine wa_iload rfl ?_
                      refine wa_Vv (d9 := d - 1) [.int _] [] (sp_X2_showByte G (d := d - 1) (by omega) s92 _) (rfl) rfl rfl (zr (by omega)) mk_X2_showByte ly_7 ml_2_116 (Nat.le_of_ble_eq_true rfl) (fun s101 hs101 => ?_)
                      obtain ⟨fs101, -⟩ := hs101
                      have Fs101 := Sm.tr Fs92 (Sm.wd fs101 (lo' := 7) (hi' := 18) (by decide) (by decide))
                      refine wa_iinc (v := (-8)) (lv' := fun y103 => [(7, .int y103), (8, .int v98), (0, .ref 7), (5, .long (gl σ 9 (v2).toNatClampNeg))]) (by decide) rfl (by decide) (fun _ => rfl) (fun y103 hy103 => ?_)
                      have ty103 := i_addT hy103.symm
                      clear hy103
                      refine wa_goto o_X2_showToken_106 (by decide) ?_
                      refine wa_pick [2, 3, 0] rfl ?_
                      exact ih93 _ (by ((try simp only [vp_in_iff, Int32.lt_iff_toInt_lt, Int32.le_iff_toInt_le, ← Int32.toInt_inj, Int32.reduceToInt, n_1, n_2, n_8, Int32.toNatClampNeg, Int64.lt_iff_toInt_lt, Int64.le_iff_toInt_le, ← Int64.toInt_inj, Int64.reduceToInt, Int32.toInt_toInt64, lg_cmp_ge, lg_cmp_le, lg_cmp_gt, lg_cmp_lt, lg_cmp_eq, Bool.false_eq_true, Bool.true_eq_false, reduceCtorEq, false_iff, true_iff, iff_true, iff_false, and_true, true_and, and_false, false_and, reduceIte, ite_true, ite_false, eq_self] at *)) <;> omega) _ _ ⟨Fs101, trivial⟩ rfl
              exact hi94 _ _ _ ⟨(Sm.rf 7 18 σ), trivial⟩ rfl
            · refine wa_aload_n (i := 0) rfl rfl ?_
              refine wa_bipush (v := 32) (by decide) ?_
              refine wa_Vv (d9 := d - 1) [.int _] [] (sp_X2_showByte G (d := d - 1) (by omega) σ _) (rfl) rfl rfl (zr (by omega)) mk_X2_showByte ly_7 ml_2_116 (Nat.le_of_ble_eq_true rfl) (fun s104 hs104 => ?_)
              obtain ⟨fs104, -⟩ := hs104
              have Fs104 := Sm.tr (Sm.rf 7 18 σ) (Sm.wd fs104 (lo' := 7) (hi' := 18) (by decide) (by decide))
              refine wa_bipush (v := 56) (by decide) ?_
              refine wa_istoreD (lv' := [(7, .int 56), (5, .long (gl σ 9 (v2).toNatClampNeg)), (4, .int v2), (3, .int v1), (0, .ref 7), (1, .int a0), (2, .ref 18)]) (by decide) rfl ?_
              refine wa_pick [4, 1, 0] rfl ?_
              have hi108 : ∀ (n9_106 : Nat) (l7 : Int32) (s106 : St), ((Sm 7 18 σ s106) ∧ (True)) → (l7.toInt + 8).toNat = n9_106 → WA G M_X2_showToken (ZM G M_X2_showToken d (fun r σ' => Sm 7 18 σ σ' ∧ True)) B_X2_showToken_106 [(0, .ref 7), (5, .long (gl σ 9 (v2).toNatClampNeg)), (7, .int l7)] [] s106 := by
                intro n9_106
                induction n9_106 using Nat.strongRecOn with
                | _ n9_106 ih107 =>
                  intro l7 s106 i9 m9_106
                  obtain ⟨Fs106, -⟩ := i9
                  have ul7 := Int32.toInt_lt l7
                  have wl7 := Int32.le_toInt l7
                  refine wa_iload rfl ?_
                  refine wa_if_lt o_X2_showToken_140 (by decide) (fun h109 => ?_) (fun h109 => ?_)
                  · refine wa_return (st := []) rfl rfl ?_
                    exact ⟨Fs106, trivial⟩
                  · refine wa_lload rfl ?_
                    refine wa_iload rfl ?_
                    refine wa_lushr ?_
                    refine wa_topl (fun v110 hv110 => ?_)
                    clear hv110
                    refine wa_l2i ?_
                    refine wa_top (fun v111 hv111 => ?_)
                    clear hv111
                    refine wa_sipush (v := 255) (by decide) ?_
                    refine wa_iand ?_
                    refine wa_top (fun v112 hv112 => ?_)
                    have tv112 := i_andT hv112
                    clear hv112
                    refine wa_istoreD (lv' := [(8, .int v112), (0, .ref 7), (5, .long (gl σ 9 (v2).toNatClampNeg)), (7, .int l7)]) (by decide) rfl ?_
                    refine wa_iload rfl ?_
                    refine wa_if_eq o_X2_showToken_134 (by decide) (fun h113 => ?_) (fun h113 => ?_)
                    · refine wa_iinc (v := (-8)) (lv' := fun y114 => [(7, .int y114), (8, .int v112), (0, .ref 7), (5, .long (gl σ 9 (v2).toNatClampNeg))]) (by decide) rfl (by decide) (fun _ => rfl) (fun y114 hy114 => ?_)
                      have ty114 := i_addT hy114.symm
                      clear hy114
                      refine wa_goto o_X2_showToken_106 (by decide) ?_
                      refine wa_pick [2, 3, 0] rfl ?_
                      exact ih107 _ (by ((try simp only [vp_in_iff, Int32.lt_iff_toInt_lt, Int32.le_iff_toInt_le, ← Int32.toInt_inj, Int32.reduceToInt, n_1, n_2, n_8, Int32.toNatClampNeg, Int64.lt_iff_toInt_lt, Int64.le_iff_toInt_le, ← Int64.toInt_inj, Int64.reduceToInt, Int32.toInt_toInt64, lg_cmp_ge, lg_cmp_le, lg_cmp_gt, lg_cmp_lt, lg_cmp_eq, Bool.false_eq_true, Bool.true_eq_false, reduceCtorEq, false_iff, true_iff, iff_true, iff_false, and_true, true_and, and_false, false_and, reduceIte, ite_true, ite_false, eq_self] at *)) <;> omega) _ _ ⟨Fs106, trivial⟩ rfl
                    · refine wa_aload_n (i := 0) rfl rfl ?_
                      refine wa_iload rfl ?_
                      refine wa_Vv (d9 := d - 1) [.int _] [] (sp_X2_showByte G (d := d - 1) (by omega) s106 _) (rfl) rfl rfl (zr (by omega)) mk_X2_showByte ly_7 ml_2_116 (Nat.le_of_ble_eq_true rfl) (fun s115 hs115 => ?_)
                      obtain ⟨fs115, -⟩ := hs115
                      have Fs115 := Sm.tr Fs106 (Sm.wd fs115 (lo' := 7) (hi' := 18) (by decide) (by decide))
                      refine wa_iinc (v := (-8)) (lv' := fun y117 => [(7, .int y117), (8, .int v112), (0, .ref 7), (5, .long (gl σ 9 (v2).toNatClampNeg))]) (by decide) rfl (by decide) (fun _ => rfl) (fun y117 hy117 => ?_)
                      have ty117 := i_addT hy117.symm
                      clear hy117
                      refine wa_goto o_X2_showToken_106 (by decide) ?_
                      refine wa_pick [2, 3, 0] rfl ?_
                      exact ih107 _ (by ((try simp only [vp_in_iff, Int32.lt_iff_toInt_lt, Int32.le_iff_toInt_le, ← Int32.toInt_inj, Int32.reduceToInt, n_1, n_2, n_8, Int32.toNatClampNeg, Int64.lt_iff_toInt_lt, Int64.le_iff_toInt_le, ← Int64.toInt_inj, Int64.reduceToInt, Int32.toInt_toInt64, lg_cmp_ge, lg_cmp_le, lg_cmp_gt, lg_cmp_lt, lg_cmp_eq, Bool.false_eq_true, Bool.true_eq_false, reduceCtorEq, false_iff, true_iff, iff_true, iff_false, and_true, true_and, and_false, false_and, reduceIte, ite_true, ite_false, eq_self] at *)) <;> omega) _ _ ⟨Fs115, trivial⟩ rfl
              exact hi108 _ _ _ ⟨Fs104, trivial⟩ rfl
    · refine wa_iload rfl ?_
      refine wa_if_lt o_X2_showToken_62 (by decide) (fun h118 => ?_) (fun h118 => ?_)
      · refine wa_iload_n (i := 3) rfl rfl ?_
        refine wa_bipush (v := 42) (by decide) ?_
        refine wa_icmp_ne o_X2_showToken_89 (by decide) (fun h119 => ?_) (fun h119 => ?_)
        · refine wa_aload_n (i := 0) rfl rfl ?_
          refine wa_geti ck_2 fl_2_71 ly_7 ?_
          refine wa_if_le o_X2_showToken_102 (by decide) (fun h120 => ?_) (fun h120 => ?_)
          · refine wa_bipush (v := 56) (by decide) ?_
            refine wa_istoreD (lv' := [(7, .int 56), (5, .long x4), (4, .int v2), (3, .int v1), (0, .ref 7), (1, .int a0), (2, .ref 18)]) (by decide) rfl ?_
            refine wa_pick [4, 1, 0] rfl ?_
            have hi123 : ∀ (n9_106 : Nat) (l7 : Int32) (s121 : St), ((Sm 7 18 σ s121) ∧ (True)) → (l7.toInt + 8).toNat = n9_106 → WA G M_X2_showToken (ZM G M_X2_showToken d (fun r σ' => Sm 7 18 σ σ' ∧ True)) B_X2_showToken_106 [(0, .ref 7), (5, .long x4), (7, .int l7)] [] s121 := by
              intro n9_106
              induction n9_106 using Nat.strongRecOn with
              | _ n9_106 ih122 =>
                intro l7 s121 i9 m9_106
                obtain ⟨Fs121, -⟩ := i9
                have ul7 := Int32.toInt_lt l7
                have wl7 := Int32.le_toInt l7
                refine wa_iload rfl ?_
                refine wa_if_lt o_X2_showToken_140 (by decide) (fun h124 => ?_) (fun h124 => ?_)
                · refine wa_return (st := []) rfl rfl ?_
                  exact ⟨Fs121, trivial⟩
                · refine wa_lload rfl ?_
                  refine wa_iload rfl ?_
                  refine wa_lushr ?_
                  refine wa_topl (fun v125 hv125 => ?_)
                  clear hv125
                  refine wa_l2i ?_
                  refine wa_top (fun v126 hv126 => ?_)
                  clear hv126
                  refine wa_sipush (v := 255) (by decide) ?_
                  refine wa_iand ?_
                  refine wa_top (fun v127 hv127 => ?_)
                  have tv127 := i_andT hv127
                  clear hv127
                  refine wa_istoreD (lv' := [(8, .int v127), (0, .ref 7), (5, .long x4), (7, .int l7)]) (by decide) rfl ?_
                  refine wa_iload rfl ?_
                  refine wa_if_eq o_X2_showToken_134 (by decide) (fun h128 => ?_) (fun h128 => ?_)
                  · refine wa_iinc (v := (-8)) (lv' := fun y129 => [(7, .int y129), (8, .int v127), (0, .ref 7), (5, .long x4)]) (by decide) rfl (by decide) (fun _ => rfl) (fun y129 hy129 => ?_)
                    have ty129 := i_addT hy129.symm
                    clear hy129
                    refine wa_goto o_X2_showToken_106 (by decide) ?_
                    refine wa_pick [2, 3, 0] rfl ?_
                    exact ih122 _ (by ((try simp only [vp_in_iff, Int32.lt_iff_toInt_lt, Int32.le_iff_toInt_le, ← Int32.toInt_inj, Int32.reduceToInt, n_1, n_2, n_8, Int32.toNatClampNeg, Int64.lt_iff_toInt_lt, Int64.le_iff_toInt_le, ← Int64.toInt_inj, Int64.reduceToInt, Int32.toInt_toInt64, lg_cmp_ge, lg_cmp_le, lg_cmp_gt, lg_cmp_lt, lg_cmp_eq, Bool.false_eq_true, Bool.true_eq_false, reduceCtorEq, false_iff, true_iff, iff_true, iff_false, and_true, true_and, and_false, false_and, reduceIte, ite_true, ite_false, eq_self] at *)) <;> omega) _ _ ⟨Fs121, trivial⟩ rfl
                  · refine wa_aload_n (i := 0) rfl rfl ?_
                    refine wa_iload rfl ?_
                    refine wa_Vv (d9 := d - 1) [.int _] [] (sp_X2_showByte G (d := d - 1) (by omega) s121 _) (rfl) rfl rfl (zr (by omega)) mk_X2_showByte ly_7 ml_2_116 (Nat.le_of_ble_eq_true rfl) (fun s130 hs130 => ?_)
                    obtain ⟨fs130, -⟩ := hs130
                    have Fs130 := Sm.tr Fs121 (Sm.wd fs130 (lo' := 7) (hi' := 18) (by decide) (by decide))
                    refine wa_iinc (v := (-8)) (lv' := fun y132 => [(7, .int y132), (8, .int v127), (0, .ref 7), (5, .long x4)]) (by decide) rfl (by decide) (fun _ => rfl) (fun y132 hy132 => ?_)
                    have ty132 := i_addT hy132.symm
                    clear hy132
                    refine wa_goto o_X2_showToken_106 (by decide) ?_
                    refine wa_pick [2, 3, 0] rfl ?_
                    exact ih122 _ (by ((try simp only [vp_in_iff, Int32.lt_iff_toInt_lt, Int32.le_iff_toInt_le, ← Int32.toInt_inj, Int32.reduceToInt, n_1, n_2, n_8, Int32.toNatClampNeg, Int64.lt_iff_toInt_lt, Int64.le_iff_toInt_le, ← Int64.toInt_inj, Int64.reduceToInt, Int32.toInt_toInt64, lg_cmp_ge, lg_cmp_le, lg_cmp_gt, lg_cmp_lt, lg_cmp_eq, Bool.false_eq_true, Bool.true_eq_false, reduceCtorEq, false_iff, true_iff, iff_true, iff_false, and_true, true_and, and_false, false_and, reduceIte, ite_true, ite_false, eq_self] at *)) <;> omega) _ _ ⟨Fs130, trivial⟩ rfl
            exact hi123 _ _ _ ⟨(Sm.rf 7 18 σ), trivial⟩ rfl
          · refine wa_aload_n (i := 0) rfl rfl ?_
            refine wa_bipush (v := 32) (by decide) ?_
            refine wa_Vv (d9 := d - 1) [.int _] [] (sp_X2_showByte G (d := d - 1) (by omega) σ _) (rfl) rfl rfl (zr (by omega)) mk_X2_showByte ly_7 ml_2_116 (Nat.le_of_ble_eq_true rfl) (fun s133 hs133 => ?_)
            obtain ⟨fs133, -⟩ := hs133
            have Fs133 := Sm.tr (Sm.rf 7 18 σ) (Sm.wd fs133 (lo' := 7) (hi' := 18) (by decide) (by decide))
            refine wa_bipush (v := 56) (by decide) ?_
            refine wa_istoreD (lv' := [(7, .int 56), (5, .long x4), (4, .int v2), (3, .int v1), (0, .ref 7), (1, .int a0), (2, .ref 18)]) (by decide) rfl ?_
            refine wa_pick [4, 1, 0] rfl ?_
            have hi137 : ∀ (n9_106 : Nat) (l7 : Int32) (s135 : St), ((Sm 7 18 σ s135) ∧ (True)) → (l7.toInt + 8).toNat = n9_106 → WA G M_X2_showToken (ZM G M_X2_showToken d (fun r σ' => Sm 7 18 σ σ' ∧ True)) B_X2_showToken_106 [(0, .ref 7), (5, .long x4), (7, .int l7)] [] s135 := by
              intro n9_106
              induction n9_106 using Nat.strongRecOn with
              | _ n9_106 ih136 =>
                intro l7 s135 i9 m9_106
                obtain ⟨Fs135, -⟩ := i9
                have ul7 := Int32.toInt_lt l7
                have wl7 := Int32.le_toInt l7
                refine wa_iload rfl ?_
                refine wa_if_lt o_X2_showToken_140 (by decide) (fun h138 => ?_) (fun h138 => ?_)
                · refine wa_return (st := []) rfl rfl ?_
                  exact ⟨Fs135, trivial⟩
                · refine wa_lload rfl ?_
                  refine wa_iload rfl ?_
                  refine wa_lushr ?_
                  refine wa_topl (fun v139 hv139 => ?_)
                  clear hv139
                  refine wa_l2i ?_
                  refine wa_top (fun v140 hv140 => ?_)
                  clear hv140
                  refine wa_sipush (v := 255) (by decide) ?_
                  refine wa_iand ?_
                  refine wa_top (fun v141 hv141 => ?_)
                  have tv141 := i_andT hv141
                  clear hv141
                  refine wa_istoreD (lv' := [(8, .int v141), (0, .ref 7), (5, .long x4), (7, .int l7)]) (by decide) rfl ?_
                  refine wa_iload rfl ?_
                  refine wa_if_eq o_X2_showToken_134 (by decide) (fun h142 => ?_) (fun h142 => ?_)
                  · refine wa_iinc (v := (-8)) (lv' := fun y143 => [(7, .int y143), (8, .int v141), (0, .ref 7), (5, .long x4)]) (by decide) rfl (by decide) (fun _ => rfl) (fun y143 hy143 => ?_)
                    have ty143 := i_addT hy143.symm
                    clear hy143
                    refine wa_goto o_X2_showToken_106 (by decide) ?_
                    refine wa_pick [2, 3, 0] rfl ?_
                    exact ih136 _ (by ((try simp only [vp_in_iff, Int32.lt_iff_toInt_lt, Int32.le_iff_toInt_le, ← Int32.toInt_inj, Int32.reduceToInt, n_1, n_2, n_8, Int32.toNatClampNeg, Int64.lt_iff_toInt_lt, Int64.le_iff_toInt_le, ← Int64.toInt_inj, Int64.reduceToInt, Int32.toInt_toInt64, lg_cmp_ge, lg_cmp_le, lg_cmp_gt, lg_cmp_lt, lg_cmp_eq, Bool.false_eq_true, Bool.true_eq_false, reduceCtorEq, false_iff, true_iff, iff_true, iff_false, and_true, true_and, and_false, false_and, reduceIte, ite_true, ite_false, eq_self] at *)) <;> omega) _ _ ⟨Fs135, trivial⟩ rfl
                  · refine wa_aload_n (i := 0) rfl rfl ?_
                    refine wa_iload rfl ?_
                    refine wa_Vv (d9 := d - 1) [.int _] [] (sp_X2_showByte G (d := d - 1) (by omega) s135 _) (rfl) rfl rfl (zr (by omega)) mk_X2_showByte ly_7 ml_2_116 (Nat.le_of_ble_eq_true rfl) (fun s144 hs144 => ?_)
                    obtain ⟨fs144, -⟩ := hs144
                    have Fs144 := Sm.tr Fs135 (Sm.wd fs144 (lo' := 7) (hi' := 18) (by decide) (by decide))
                    refine wa_iinc (v := (-8)) (lv' := fun y146 => [(7, .int y146), (8, .int v141), (0, .ref 7), (5, .long x4)]) (by decide) rfl (by decide) (fun _ => rfl) (fun y146 hy146 => ?_)
                    have ty146 := i_addT hy146.symm
                    clear hy146
                    refine wa_goto o_X2_showToken_106 (by decide) ?_
                    refine wa_pick [2, 3, 0] rfl ?_
                    exact ih136 _ (by ((try simp only [vp_in_iff, Int32.lt_iff_toInt_lt, Int32.le_iff_toInt_le, ← Int32.toInt_inj, Int32.reduceToInt, n_1, n_2, n_8, Int32.toNatClampNeg, Int64.lt_iff_toInt_lt, Int64.le_iff_toInt_le, ← Int64.toInt_inj, Int64.reduceToInt, Int32.toInt_toInt64, lg_cmp_ge, lg_cmp_le, lg_cmp_gt, lg_cmp_lt, lg_cmp_eq, Bool.false_eq_true, Bool.true_eq_false, reduceCtorEq, false_iff, true_iff, iff_true, iff_false, and_true, true_and, and_false, false_and, reduceIte, ite_true, ite_false, eq_self] at *)) <;> omega) _ _ ⟨Fs144, trivial⟩ rfl
            exact hi137 _ _ _ ⟨Fs133, trivial⟩ rfl
        · refine wa_iload rfl ?_
          refine wa_if_lt o_X2_showToken_89 (by decide) (fun h147 => ?_) (fun h147 => ?_)
          · refine wa_aload_n (i := 0) rfl rfl ?_
            refine wa_geti ck_2 fl_2_71 ly_7 ?_
            refine wa_if_le o_X2_showToken_102 (by decide) (fun h148 => ?_) (fun h148 => ?_)
            · refine wa_bipush (v := 56) (by decide) ?_
              refine wa_istoreD (lv' := [(7, .int 56), (5, .long x4), (4, .int v2), (3, .int v1), (0, .ref 7), (1, .int a0), (2, .ref 18)]) (by decide) rfl ?_
              refine wa_pick [4, 1, 0] rfl ?_
              have hi151 : ∀ (n9_106 : Nat) (l7 : Int32) (s149 : St), ((Sm 7 18 σ s149) ∧ (True)) → (l7.toInt + 8).toNat = n9_106 → WA G M_X2_showToken (ZM G M_X2_showToken d (fun r σ' => Sm 7 18 σ σ' ∧ True)) B_X2_showToken_106 [(0, .ref 7), (5, .long x4), (7, .int l7)] [] s149 := by
                intro n9_106
                induction n9_106 using Nat.strongRecOn with
                | _ n9_106 ih150 =>
                  intro l7 s149 i9 m9_106
                  obtain ⟨Fs149, -⟩ := i9
                  have ul7 := Int32.toInt_lt l7
                  have wl7 := Int32.le_toInt l7
                  refine wa_iload rfl ?_
                  refine wa_if_lt o_X2_showToken_140 (by decide) (fun h152 => ?_) (fun h152 => ?_)
                  · refine wa_return (st := []) rfl rfl ?_
                    exact ⟨Fs149, trivial⟩
                  · refine wa_lload rfl ?_
                    refine wa_iload rfl ?_
                    refine wa_lushr ?_
                    refine wa_topl (fun v153 hv153 => ?_)
                    clear hv153
                    refine wa_l2i ?_
                    refine wa_top (fun v154 hv154 => ?_)
                    clear hv154
                    refine wa_sipush (v := 255) (by decide) ?_
                    refine wa_iand ?_
                    refine wa_top (fun v155 hv155 => ?_)
                    have tv155 := i_andT hv155
                    clear hv155
                    refine wa_istoreD (lv' := [(8, .int v155), (0, .ref 7), (5, .long x4), (7, .int l7)]) (by decide) rfl ?_
                    refine wa_iload rfl ?_
                    refine wa_if_eq o_X2_showToken_134 (by decide) (fun h156 => ?_) (fun h156 => ?_)
                    · refine wa_iinc (v := (-8)) (lv' := fun y157 => [(7, .int y157), (8, .int v155), (0, .ref 7), (5, .long x4)]) (by decide) rfl (by decide) (fun _ => rfl) (fun y157 hy157 => ?_)
                      have ty157 := i_addT hy157.symm
                      clear hy157
                      refine wa_goto o_X2_showToken_106 (by decide) ?_
                      refine wa_pick [2, 3, 0] rfl ?_
                      exact ih150 _ (by ((try simp only [vp_in_iff, Int32.lt_iff_toInt_lt, Int32.le_iff_toInt_le, ← Int32.toInt_inj, Int32.reduceToInt, n_1, n_2, n_8, Int32.toNatClampNeg, Int64.lt_iff_toInt_lt, Int64.le_iff_toInt_le, ← Int64.toInt_inj, Int64.reduceToInt, Int32.toInt_toInt64, lg_cmp_ge, lg_cmp_le, lg_cmp_gt, lg_cmp_lt, lg_cmp_eq, Bool.false_eq_true, Bool.true_eq_false, reduceCtorEq, false_iff, true_iff, iff_true, iff_false, and_true, true_and, and_false, false_and, reduceIte, ite_true, ite_false, eq_self] at *)) <;> omega) _ _ ⟨Fs149, trivial⟩ rfl
                    · refine wa_aload_n (i := 0) rfl rfl ?_
                      refine wa_iload rfl ?_
                      refine wa_Vv (d9 := d - 1) [.int _] [] (sp_X2_showByte G (d := d - 1) (by omega) s149 _) (rfl) rfl rfl (zr (by omega)) mk_X2_showByte ly_7 ml_2_116 (Nat.le_of_ble_eq_true rfl) (fun s158 hs158 => ?_)
                      obtain ⟨fs158, -⟩ := hs158
                      have Fs158 := Sm.tr Fs149 (Sm.wd fs158 (lo' := 7) (hi' := 18) (by decide) (by decide))
                      refine wa_iinc (v := (-8)) (lv' := fun y160 => [(7, .int y160), (8, .int v155), (0, .ref 7), (5, .long x4)]) (by decide) rfl (by decide) (fun _ => rfl) (fun y160 hy160 => ?_)
                      have ty160 := i_addT hy160.symm
                      clear hy160
                      refine wa_goto o_X2_showToken_106 (by decide) ?_
                      refine wa_pick [2, 3, 0] rfl ?_
                      exact ih150 _ (by ((try simp only [vp_in_iff, Int32.lt_iff_toInt_lt, Int32.le_iff_toInt_le, ← Int32.toInt_inj, Int32.reduceToInt, n_1, n_2, n_8, Int32.toNatClampNeg, Int64.lt_iff_toInt_lt, Int64.le_iff_toInt_le, ← Int64.toInt_inj, Int64.reduceToInt, Int32.toInt_toInt64, lg_cmp_ge, lg_cmp_le, lg_cmp_gt, lg_cmp_lt, lg_cmp_eq, Bool.false_eq_true, Bool.true_eq_false, reduceCtorEq, false_iff, true_iff, iff_true, iff_false, and_true, true_and, and_false, false_and, reduceIte, ite_true, ite_false, eq_self] at *)) <;> omega) _ _ ⟨Fs158, trivial⟩ rfl
              exact hi151 _ _ _ ⟨(Sm.rf 7 18 σ), trivial⟩ rfl
            · refine wa_aload_n (i := 0) rfl rfl ?_
              refine wa_bipush (v := 32) (by decide) ?_
              refine wa_Vv (d9 := d - 1) [.int _] [] (sp_X2_showByte G (d := d - 1) (by omega) σ _) (rfl) rfl rfl (zr (by omega)) mk_X2_showByte ly_7 ml_2_116 (Nat.le_of_ble_eq_true rfl) (fun s161 hs161 => ?_)
              obtain ⟨fs161, -⟩ := hs161
              have Fs161 := Sm.tr (Sm.rf 7 18 σ) (Sm.wd fs161 (lo' := 7) (hi' := 18) (by decide) (by decide))
              refine wa_bipush (v := 56) (by decide) ?_
              refine wa_istoreD (lv' := [(7, .int 56), (5, .long x4), (4, .int v2), (3, .int v1), (0, .ref 7), (1, .int a0), (2, .ref 18)]) (by decide) rfl ?_
              refine wa_pick [4, 1, 0] rfl ?_
              have hi165 : ∀ (n9_106 : Nat) (l7 : Int32) (s163 : St), ((Sm 7 18 σ s163) ∧ (True)) → (l7.toInt + 8).toNat = n9_106 → WA G M_X2_showToken (ZM G M_X2_showToken d (fun r σ' => Sm 7 18 σ σ' ∧ True)) B_X2_showToken_106 [(0, .ref 7), (5, .long x4), (7, .int l7)] [] s163 := by
                intro n9_106
                induction n9_106 using Nat.strongRecOn with
                | _ n9_106 ih164 =>
                  intro l7 s163 i9 m9_106
                  obtain ⟨Fs163, -⟩ := i9
                  have ul7 := Int32.toInt_lt l7
                  have wl7 := Int32.le_toInt l7
                  refine wa_iload rfl ?_
                  refine wa_if_lt o_X2_showToken_140 (by decide) (fun h166 => ?_) (fun h166 => ?_)
                  · refine wa_return (st := []) rfl rfl ?_
                    exact ⟨Fs163, trivial⟩
                  · refine wa_lload rfl ?_
                    refine wa_iload rfl ?_
                    refine wa_lushr ?_
                    refine wa_topl (fun v167 hv167 => ?_)
                    clear hv167
                    refine wa_l2i ?_
                    refine wa_top (fun v168 hv168 => ?_)
                    clear hv168
                    refine wa_sipush (v := 255) (by decide) ?_
                    refine wa_iand ?_
                    refine wa_top (fun v169 hv169 => ?_)
                    have tv169 := i_andT hv169
                    clear hv169
                    refine wa_istoreD (lv' := [(8, .int v169), (0, .ref 7), (5, .long x4), (7, .int l7)]) (by decide) rfl ?_
                    refine wa_iload rfl ?_
                    refine wa_if_eq o_X2_showToken_134 (by decide) (fun h170 => ?_) (fun h170 => ?_)
                    · refine wa_iinc (v := (-8)) (lv' := fun y171 => [(7, .int y171), (8, .int v169), (0, .ref 7), (5, .long x4)]) (by decide) rfl (by decide) (fun _ => rfl) (fun y171 hy171 => ?_)
                      have ty171 := i_addT hy171.symm
                      clear hy171
                      refine wa_goto o_X2_showToken_106 (by decide) ?_
                      refine wa_pick [2, 3, 0] rfl ?_
                      exact ih164 _ (by ((try simp only [vp_in_iff, Int32.lt_iff_toInt_lt, Int32.le_iff_toInt_le, ← Int32.toInt_inj, Int32.reduceToInt, n_1, n_2, n_8, Int32.toNatClampNeg, Int64.lt_iff_toInt_lt, Int64.le_iff_toInt_le, ← Int64.toInt_inj, Int64.reduceToInt, Int32.toInt_toInt64, lg_cmp_ge, lg_cmp_le, lg_cmp_gt, lg_cmp_lt, lg_cmp_eq, Bool.false_eq_true, Bool.true_eq_false, reduceCtorEq, false_iff, true_iff, iff_true, iff_false, and_true, true_and, and_false, false_and, reduceIte, ite_true, ite_false, eq_self] at *)) <;> omega) _ _ ⟨Fs163, trivial⟩ rfl
                    · refine wa_aload_n (i := 0) rfl rfl ?_
                      refine wa_iload rfl ?_
                      refine wa_Vv (d9 := d - 1) [.int _] [] (sp_X2_showByte G (d := d - 1) (by omega) s163 _) (rfl) rfl rfl (zr (by omega)) mk_X2_showByte ly_7 ml_2_116 (Nat.le_of_ble_eq_true rfl) (fun s172 hs172 => ?_)
                      obtain ⟨fs172, -⟩ := hs172
                      have Fs172 := Sm.tr Fs163 (Sm.wd fs172 (lo' := 7) (hi' := 18) (by decide) (by decide))
                      refine wa_iinc (v := (-8)) (lv' := fun y174 => [(7, .int y174), (8, .int v169), (0, .ref 7), (5, .long x4)]) (by decide) rfl (by decide) (fun _ => rfl) (fun y174 hy174 => ?_)
                      have ty174 := i_addT hy174.symm
                      clear hy174
                      refine wa_goto o_X2_showToken_106 (by decide) ?_
                      refine wa_pick [2, 3, 0] rfl ?_
                      exact ih164 _ (by ((try simp only [vp_in_iff, Int32.lt_iff_toInt_lt, Int32.le_iff_toInt_le, ← Int32.toInt_inj, Int32.reduceToInt, n_1, n_2, n_8, Int32.toNatClampNeg, Int64.lt_iff_toInt_lt, Int64.le_iff_toInt_le, ← Int64.toInt_inj, Int64.reduceToInt, Int32.toInt_toInt64, lg_cmp_ge, lg_cmp_le, lg_cmp_gt, lg_cmp_lt, lg_cmp_eq, Bool.false_eq_true, Bool.true_eq_false, reduceCtorEq, false_iff, true_iff, iff_true, iff_false, and_true, true_and, and_false, false_and, reduceIte, ite_true, ite_false, eq_self] at *)) <;> omega) _ _ ⟨Fs172, trivial⟩ rfl
              exact hi165 _ _ _ ⟨Fs161, trivial⟩ rfl
          · refine wa_iload rfl ?_
            refine wa_bipush (v := 24) (by decide) ?_
            refine wa_icmp_ge o_X2_showToken_89 (by decide) (fun h175 => ?_) (fun h175 => ?_)
            · refine wa_aload_n (i := 0) rfl rfl ?_
              refine wa_geti ck_2 fl_2_71 ly_7 ?_
              refine wa_if_le o_X2_showToken_102 (by decide) (fun h176 => ?_) (fun h176 => ?_)
              · refine wa_bipush (v := 56) (by decide) ?_
                refine wa_istoreD (lv' := [(7, .int 56), (5, .long x4), (4, .int v2), (3, .int v1), (0, .ref 7), (1, .int a0), (2, .ref 18)]) (by decide) rfl ?_
                refine wa_pick [4, 1, 0] rfl ?_
                have hi179 : ∀ (n9_106 : Nat) (l7 : Int32) (s177 : St), ((Sm 7 18 σ s177) ∧ (True)) → (l7.toInt + 8).toNat = n9_106 → WA G M_X2_showToken (ZM G M_X2_showToken d (fun r σ' => Sm 7 18 σ σ' ∧ True)) B_X2_showToken_106 [(0, .ref 7), (5, .long x4), (7, .int l7)] [] s177 := by
                  intro n9_106
                  induction n9_106 using Nat.strongRecOn with
                  | _ n9_106 ih178 =>
                    intro l7 s177 i9 m9_106
                    obtain ⟨Fs177, -⟩ := i9
                    have ul7 := Int32.toInt_lt l7
                    have wl7 := Int32.le_toInt l7
                    refine wa_iload rfl ?_
                    refine wa_if_lt o_X2_showToken_140 (by decide) (fun h180 => ?_) (fun h180 => ?_)
                    · refine wa_return (st := []) rfl rfl ?_
                      exact ⟨Fs177, trivial⟩
                    · refine wa_lload rfl ?_
                      refine wa_iload rfl ?_
                      refine wa_lushr ?_
                      refine wa_topl (fun v181 hv181 => ?_)
                      clear hv181
                      refine wa_l2i ?_
                      refine wa_top (fun v182 hv182 => ?_)
                      clear hv182
                      refine wa_sipush (v := 255) (by decide) ?_
                      refine wa_iand ?_
                      refine wa_top (fun v183 hv183 => ?_)
                      have tv183 := i_andT hv183
                      clear hv183
                      refine wa_istoreD (lv' := [(8, .int v183), (0, .ref 7), (5, .long x4), (7, .int l7)]) (by decide) rfl ?_
                      refine wa_iload rfl ?_
                      refine wa_if_eq o_X2_showToken_134 (by decide) (fun h184 => ?_) (fun h184 => ?_)
                      · refine wa_iinc (v := (-8)) (lv' := fun y185 => [(7, .int y185), (8, .int v183), (0, .ref 7), (5, .long x4)]) (by decide) rfl (by decide) (fun _ => rfl) (fun y185 hy185 => ?_)
                        have ty185 := i_addT hy185.symm
                        clear hy185
                        refine wa_goto o_X2_showToken_106 (by decide) ?_
                        refine wa_pick [2, 3, 0] rfl ?_
                        exact ih178 _ (by ((try simp only [vp_in_iff, Int32.lt_iff_toInt_lt, Int32.le_iff_toInt_le, ← Int32.toInt_inj, Int32.reduceToInt, n_1, n_2, n_8, Int32.toNatClampNeg, Int64.lt_iff_toInt_lt, Int64.le_iff_toInt_le, ← Int64.toInt_inj, Int64.reduceToInt, Int32.toInt_toInt64, lg_cmp_ge, lg_cmp_le, lg_cmp_gt, lg_cmp_lt, lg_cmp_eq, Bool.false_eq_true, Bool.true_eq_false, reduceCtorEq, false_iff, true_iff, iff_true, iff_false, and_true, true_and, and_false, false_and, reduceIte, ite_true, ite_false, eq_self] at *)) <;> omega) _ _ ⟨Fs177, trivial⟩ rfl
                      · refine wa_aload_n (i := 0) rfl rfl ?_
                        refine wa_iload rfl ?_
                        refine wa_Vv (d9 := d - 1) [.int _] [] (sp_X2_showByte G (d := d - 1) (by omega) s177 _) (rfl) rfl rfl (zr (by omega)) mk_X2_showByte ly_7 ml_2_116 (Nat.le_of_ble_eq_true rfl) (fun s186 hs186 => ?_)
                        obtain ⟨fs186, -⟩ := hs186
                        have Fs186 := Sm.tr Fs177 (Sm.wd fs186 (lo' := 7) (hi' := 18) (by decide) (by decide))
                        refine wa_iinc (v := (-8)) (lv' := fun y188 => [(7, .int y188), (8, .int v183), (0, .ref 7), (5, .long x4)]) (by decide) rfl (by decide) (fun _ => rfl) (fun y188 hy188 => ?_)
                        have ty188 := i_addT hy188.symm
                        clear hy188
                        refine wa_goto o_X2_showToken_106 (by decide) ?_
                        refine wa_pick [2, 3, 0] rfl ?_
                        exact ih178 _ (by ((try simp only [vp_in_iff, Int32.lt_iff_toInt_lt, Int32.le_iff_toInt_le, ← Int32.toInt_inj, Int32.reduceToInt, n_1, n_2, n_8, Int32.toNatClampNeg, Int64.lt_iff_toInt_lt, Int64.le_iff_toInt_le, ← Int64.toInt_inj, Int64.reduceToInt, Int32.toInt_toInt64, lg_cmp_ge, lg_cmp_le, lg_cmp_gt, lg_cmp_lt, lg_cmp_eq, Bool.false_eq_true, Bool.true_eq_false, reduceCtorEq, false_iff, true_iff, iff_true, iff_false, and_true, true_and, and_false, false_and, reduceIte, ite_true, ite_false, eq_self] at *)) <;> omega) _ _ ⟨Fs186, trivial⟩ rfl
                exact hi179 _ _ _ ⟨(Sm.rf 7 18 σ), trivial⟩ rfl
              · refine wa_aload_n (i := 0) rfl rfl ?_
                refine wa_bipush (v := 32) (by decide) ?_
                refine wa_Vv (d9 := d - 1) [.int _] [] (sp_X2_showByte G (d := d - 1) (by omega) σ _) (rfl) rfl rfl (zr (by omega)) mk_X2_showByte ly_7 ml_2_116 (Nat.le_of_ble_eq_true rfl) (fun s189 hs189 => ?_)
                obtain ⟨fs189, -⟩ := hs189
                have Fs189 := Sm.tr (Sm.rf 7 18 σ) (Sm.wd fs189 (lo' := 7) (hi' := 18) (by decide) (by decide))
                refine wa_bipush (v := 56) (by decide) ?_
                refine wa_istoreD (lv' := [(7, .int 56), (5, .long x4), (4, .int v2), (3, .int v1), (0, .ref 7), (1, .int a0), (2, .ref 18)]) (by decide) rfl ?_
                refine wa_pick [4, 1, 0] rfl ?_
                have hi193 : ∀ (n9_106 : Nat) (l7 : Int32) (s191 : St), ((Sm 7 18 σ s191) ∧ (True)) → (l7.toInt + 8).toNat = n9_106 → WA G M_X2_showToken (ZM G M_X2_showToken d (fun r σ' => Sm 7 18 σ σ' ∧ True)) B_X2_showToken_106 [(0, .ref 7), (5, .long x4), (7, .int l7)] [] s191 := by
                  intro n9_106
                  induction n9_106 using Nat.strongRecOn with
                  | _ n9_106 ih192 =>
                    intro l7 s191 i9 m9_106
                    obtain ⟨Fs191, -⟩ := i9
                    have ul7 := Int32.toInt_lt l7
                    have wl7 := Int32.le_toInt l7
                    refine wa_iload rfl ?_
                    refine wa_if_lt o_X2_showToken_140 (by decide) (fun h194 => ?_) (fun h194 => ?_)
                    · refine wa_return (st := []) rfl rfl ?_
                      exact ⟨Fs191, trivial⟩
                    · refine wa_lload rfl ?_
                      refine wa_iload rfl ?_
                      refine wa_lushr ?_
                      refine wa_topl (fun v195 hv195 => ?_)
                      clear hv195
                      refine wa_l2i ?_
                      refine wa_top (fun v196 hv196 => ?_)
                      clear hv196
                      refine wa_sipush (v := 255) (by decide) ?_
                      refine wa_iand ?_
                      refine wa_top (fun v197 hv197 => ?_)
                      have tv197 := i_andT hv197
                      clear hv197
                      refine wa_istoreD (lv' := [(8, .int v197), (0, .ref 7), (5, .long x4), (7, .int l7)]) (by decide) rfl ?_
                      refine wa_iload rfl ?_
                      refine wa_if_eq o_X2_showToken_134 (by decide) (fun h198 => ?_) (fun h198 => ?_)
                      · refine wa_iinc (v := (-8)) (lv' := fun y199 => [(7, .int y199), (8, .int v197), (0, .ref 7), (5, .long x4)]) (by decide) rfl (by decide) (fun _ => rfl) (fun y199 hy199 => ?_)
                        have ty199 := i_addT hy199.symm
                        clear hy199
                        refine wa_goto o_X2_showToken_106 (by decide) ?_
                        refine wa_pick [2, 3, 0] rfl ?_
                        exact ih192 _ (by ((try simp only [vp_in_iff, Int32.lt_iff_toInt_lt, Int32.le_iff_toInt_le, ← Int32.toInt_inj, Int32.reduceToInt, n_1, n_2, n_8, Int32.toNatClampNeg, Int64.lt_iff_toInt_lt, Int64.le_iff_toInt_le, ← Int64.toInt_inj, Int64.reduceToInt, Int32.toInt_toInt64, lg_cmp_ge, lg_cmp_le, lg_cmp_gt, lg_cmp_lt, lg_cmp_eq, Bool.false_eq_true, Bool.true_eq_false, reduceCtorEq, false_iff, true_iff, iff_true, iff_false, and_true, true_and, and_false, false_and, reduceIte, ite_true, ite_false, eq_self] at *)) <;> omega) _ _ ⟨Fs191, trivial⟩ rfl
                      · refine wa_aload_n (i := 0) rfl rfl ?_
                        refine wa_iload rfl ?_
                        refine wa_Vv (d9 := d - 1) [.int _] [] (sp_X2_showByte G (d := d - 1) (by omega) s191 _) (rfl) rfl rfl (zr (by omega)) mk_X2_showByte ly_7 ml_2_116 (Nat.le_of_ble_eq_true rfl) (fun s200 hs200 => ?_)
                        obtain ⟨fs200, -⟩ := hs200
                        have Fs200 := Sm.tr Fs191 (Sm.wd fs200 (lo' := 7) (hi' := 18) (by decide) (by decide))
                        refine wa_iinc (v := (-8)) (lv' := fun y202 => [(7, .int y202), (8, .int v197), (0, .ref 7), (5, .long x4)]) (by decide) rfl (by decide) (fun _ => rfl) (fun y202 hy202 => ?_)
                        have ty202 := i_addT hy202.symm
                        clear hy202
                        refine wa_goto o_X2_showToken_106 (by decide) ?_
                        refine wa_pick [2, 3, 0] rfl ?_
                        exact ih192 _ (by ((try simp only [vp_in_iff, Int32.lt_iff_toInt_lt, Int32.le_iff_toInt_le, ← Int32.toInt_inj, Int32.reduceToInt, n_1, n_2, n_8, Int32.toNatClampNeg, Int64.lt_iff_toInt_lt, Int64.le_iff_toInt_le, ← Int64.toInt_inj, Int64.reduceToInt, Int32.toInt_toInt64, lg_cmp_ge, lg_cmp_le, lg_cmp_gt, lg_cmp_lt, lg_cmp_eq, Bool.false_eq_true, Bool.true_eq_false, reduceCtorEq, false_iff, true_iff, iff_true, iff_false, and_true, true_and, and_false, false_and, reduceIte, ite_true, ite_false, eq_self] at *)) <;> omega) _ _ ⟨Fs200, trivial⟩ rfl
                exact hi193 _ _ _ ⟨Fs189, trivial⟩ rfl
            · have mh175 := nle_mx h175
              refine wa_aload_n (i := 0) rfl rfl ?_
              refine wa_getr ck_2 fl_2_15 ly_7 rf_7_1 ?_
              refine wa_iload rfl ?_
              refine wa_lald ly_9 (by ((try simp only [vp_in_iff, Int32.lt_iff_toInt_lt, Int32.le_iff_toInt_le, ← Int32.toInt_inj, Int32.reduceToInt, n_1, n_2, n_8, Int32.toNatClampNeg, Int64.lt_iff_toInt_lt, Int64.le_iff_toInt_le, ← Int64.toInt_inj, Int64.reduceToInt, Int32.toInt_toInt64, lg_cmp_ge, lg_cmp_le, lg_cmp_gt, lg_cmp_lt, lg_cmp_eq, Bool.false_eq_true, Bool.true_eq_false, reduceCtorEq, false_iff, true_iff, iff_true, iff_false, and_true, true_and, and_false, false_and, reduceIte, ite_true, ite_false, eq_self] at *)) <;> omega) ?_
              refine wa_lstoreD (lv' := [(5, .long (gl σ 9 (v2).toNatClampNeg)), (4, .int v2), (3, .int v1), (0, .ref 7), (1, .int a0), (2, .ref 18)]) (by decide) rfl ?_
              refine wa_aload_n (i := 0) rfl rfl ?_
              refine wa_geti ck_2 fl_2_71 ly_7 ?_
              refine wa_if_le o_X2_showToken_102 (by decide) (fun h203 => ?_) (fun h203 => ?_)
              · refine wa_bipush (v := 56) (by decide) ?_
                refine wa_istoreD (lv' := [(7, .int 56), (5, .long (gl σ 9 (v2).toNatClampNeg)), (4, .int v2), (3, .int v1), (0, .ref 7), (1, .int a0), (2, .ref 18)]) (by decide) rfl ?_
                refine wa_pick [4, 1, 0] rfl ?_
                have hi206 : ∀ (n9_106 : Nat) (l7 : Int32) (s204 : St), ((Sm 7 18 σ s204) ∧ (True)) → (l7.toInt + 8).toNat = n9_106 → WA G M_X2_showToken (ZM G M_X2_showToken d (fun r σ' => Sm 7 18 σ σ' ∧ True)) B_X2_showToken_106 [(0, .ref 7), (5, .long (gl σ 9 (v2).toNatClampNeg)), (7, .int l7)] [] s204 := by
                  intro n9_106
                  induction n9_106 using Nat.strongRecOn with
                  | _ n9_106 ih205 =>
                    intro l7 s204 i9 m9_106
                    obtain ⟨Fs204, -⟩ := i9
                    have ul7 := Int32.toInt_lt l7
                    have wl7 := Int32.le_toInt l7
                    refine wa_iload rfl ?_
                    refine wa_if_lt o_X2_showToken_140 (by decide) (fun h207 => ?_) (fun h207 => ?_)
                    · refine wa_return (st := []) rfl rfl ?_
                      exact ⟨Fs204, trivial⟩
                    · refine wa_lload rfl ?_
                      refine wa_iload rfl ?_
                      refine wa_lushr ?_
                      refine wa_topl (fun v208 hv208 => ?_)
                      clear hv208
                      refine wa_l2i ?_
                      refine wa_top (fun v209 hv209 => ?_)
                      clear hv209
                      refine wa_sipush (v := 255) (by decide) ?_
                      refine wa_iand ?_
                      refine wa_top (fun v210 hv210 => ?_)
                      have tv210 := i_andT hv210
                      clear hv210
                      refine wa_istoreD (lv' := [(8, .int v210), (0, .ref 7), (5, .long (gl σ 9 (v2).toNatClampNeg)), (7, .int l7)]) (by decide) rfl ?_
                      refine wa_iload rfl ?_
                      refine wa_if_eq o_X2_showToken_134 (by decide) (fun h211 => ?_) (fun h211 => ?_)
                      · refine wa_iinc (v := (-8)) (lv' := fun y212 => [(7, .int y212), (8, .int v210), (0, .ref 7), (5, .long (gl σ 9 (v2).toNatClampNeg))]) (by decide) rfl (by decide) (fun _ => rfl) (fun y212 hy212 => ?_)
                        have ty212 := i_addT hy212.symm
                        clear hy212
                        refine wa_goto o_X2_showToken_106 (by decide) ?_
                        refine wa_pick [2, 3, 0] rfl ?_
                        exact ih205 _ (by ((try simp only [vp_in_iff, Int32.lt_iff_toInt_lt, Int32.le_iff_toInt_le, ← Int32.toInt_inj, Int32.reduceToInt, n_1, n_2, n_8, Int32.toNatClampNeg, Int64.lt_iff_toInt_lt, Int64.le_iff_toInt_le, ← Int64.toInt_inj, Int64.reduceToInt, Int32.toInt_toInt64, lg_cmp_ge, lg_cmp_le, lg_cmp_gt, lg_cmp_lt, lg_cmp_eq, Bool.false_eq_true, Bool.true_eq_false, reduceCtorEq, false_iff, true_iff, iff_true, iff_false, and_true, true_and, and_false, false_and, reduceIte, ite_true, ite_false, eq_self] at *)) <;> omega) _ _ ⟨Fs204, trivial⟩ rfl
                      · refine wa_aload_n (i := 0) rfl rfl ?_
                        refine wa_iload rfl ?_
                        refine wa_Vv (d9 := d - 1) [.int _] [] (sp_X2_showByte G (d := d - 1) (by omega) s204 _) (rfl) rfl rfl (zr (by omega)) mk_X2_showByte ly_7 ml_2_116 (Nat.le_of_ble_eq_true rfl) (fun s213 hs213 => ?_)
                        obtain ⟨fs213, -⟩ := hs213
                        have Fs213 := Sm.tr Fs204 (Sm.wd fs213 (lo' := 7) (hi' := 18) (by decide) (by decide))
                        refine wa_iinc (v := (-8)) (lv' := fun y215 => [(7, .int y215), (8, .int v210), (0, .ref 7), (5, .long (gl σ 9 (v2).toNatClampNeg))]) (by decide) rfl (by decide) (fun _ => rfl) (fun y215 hy215 => ?_)
                        have ty215 := i_addT hy215.symm
                        clear hy215
                        refine wa_goto o_X2_showToken_106 (by decide) ?_
                        refine wa_pick [2, 3, 0] rfl ?_
                        exact ih205 _ (by ((try simp only [vp_in_iff, Int32.lt_iff_toInt_lt, Int32.le_iff_toInt_le, ← Int32.toInt_inj, Int32.reduceToInt, n_1, n_2, n_8, Int32.toNatClampNeg, Int64.lt_iff_toInt_lt, Int64.le_iff_toInt_le, ← Int64.toInt_inj, Int64.reduceToInt, Int32.toInt_toInt64, lg_cmp_ge, lg_cmp_le, lg_cmp_gt, lg_cmp_lt, lg_cmp_eq, Bool.false_eq_true, Bool.true_eq_false, reduceCtorEq, false_iff, true_iff, iff_true, iff_false, and_true, true_and, and_false, false_and, reduceIte, ite_true, ite_false, eq_self] at *)) <;> omega) _ _ ⟨Fs213, trivial⟩ rfl
                exact hi206 _ _ _ ⟨(Sm.rf 7 18 σ), trivial⟩ rfl
              · refine wa_aload_n (i := 0) rfl rfl ?_
                refine wa_bipush (v := 32) (by decide) ?_
                refine wa_Vv (d9 := d - 1) [.int _] [] (sp_X2_showByte G (d := d - 1) (by omega) σ _) (rfl) rfl rfl (zr (by omega)) mk_X2_showByte ly_7 ml_2_116 (Nat.le_of_ble_eq_true rfl) (fun s216 hs216 => ?_)
                obtain ⟨fs216, -⟩ := hs216
                have Fs216 := Sm.tr (Sm.rf 7 18 σ) (Sm.wd fs216 (lo' := 7) (hi' := 18) (by decide) (by decide))
                refine wa_bipush (v := 56) (by decide) ?_
                refine wa_istoreD (lv' := [(7, .int 56), (5, .long (gl σ 9 (v2).toNatClampNeg)), (4, .int v2), (3, .int v1), (0, .ref 7), (1, .int a0), (2, .ref 18)]) (by decide) rfl ?_
                refine wa_pick [4, 1, 0] rfl ?_
                have hi220 : ∀ (n9_106 : Nat) (l7 : Int32) (s218 : St), ((Sm 7 18 σ s218) ∧ (True)) → (l7.toInt + 8).toNat = n9_106 → WA G M_X2_showToken (ZM G M_X2_showToken d (fun r σ' => Sm 7 18 σ σ' ∧ True)) B_X2_showToken_106 [(0, .ref 7), (5, .long (gl σ 9 (v2).toNatClampNeg)), (7, .int l7)] [] s218 := by
                  intro n9_106
                  induction n9_106 using Nat.strongRecOn with
                  | _ n9_106 ih219 =>
                    intro l7 s218 i9 m9_106
                    obtain ⟨Fs218, -⟩ := i9
                    have ul7 := Int32.toInt_lt l7
                    have wl7 := Int32.le_toInt l7
                    refine wa_iload rfl ?_
                    refine wa_if_lt o_X2_showToken_140 (by decide) (fun h221 => ?_) (fun h221 => ?_)
                    · refine wa_return (st := []) rfl rfl ?_
                      exact ⟨Fs218, trivial⟩
                    · refine wa_lload rfl ?_
                      refine wa_iload rfl ?_
                      refine wa_lushr ?_
                      refine wa_topl (fun v222 hv222 => ?_)
                      clear hv222
                      refine wa_l2i ?_
                      refine wa_top (fun v223 hv223 => ?_)
                      clear hv223
                      refine wa_sipush (v := 255) (by decide) ?_
                      refine wa_iand ?_
                      refine wa_top (fun v224 hv224 => ?_)
                      have tv224 := i_andT hv224
                      clear hv224
                      refine wa_istoreD (lv' := [(8, .int v224), (0, .ref 7), (5, .long (gl σ 9 (v2).toNatClampNeg)), (7, .int l7)]) (by decide) rfl ?_
                      refine wa_iload rfl ?_
                      refine wa_if_eq o_X2_showToken_134 (by decide) (fun h225 => ?_) (fun h225 => ?_)
                      · refine wa_iinc (v := (-8)) (lv' := fun y226 => [(7, .int y226), (8, .int v224), (0, .ref 7), (5, .long (gl σ 9 (v2).toNatClampNeg))]) (by decide) rfl (by decide) (fun _ => rfl) (fun y226 hy226 => ?_)
                        have ty226 := i_addT hy226.symm
                        clear hy226
                        refine wa_goto o_X2_showToken_106 (by decide) ?_
                        refine wa_pick [2, 3, 0] rfl ?_
                        exact ih219 _ (by ((try simp only [vp_in_iff, Int32.lt_iff_toInt_lt, Int32.le_iff_toInt_le, ← Int32.toInt_inj, Int32.reduceToInt, n_1, n_2, n_8, Int32.toNatClampNeg, Int64.lt_iff_toInt_lt, Int64.le_iff_toInt_le, ← Int64.toInt_inj, Int64.reduceToInt, Int32.toInt_toInt64, lg_cmp_ge, lg_cmp_le, lg_cmp_gt, lg_cmp_lt, lg_cmp_eq, Bool.false_eq_true, Bool.true_eq_false, reduceCtorEq, false_iff, true_iff, iff_true, iff_false, and_true, true_and, and_false, false_and, reduceIte, ite_true, ite_false, eq_self] at *)) <;> omega) _ _ ⟨Fs218, trivial⟩ rfl
                      · refine wa_aload_n (i := 0) rfl rfl ?_
                        refine wa_iload rfl ?_
                        refine wa_Vv (d9 := d - 1) [.int _] [] (sp_X2_showByte G (d := d - 1) (by omega) s218 _) (rfl) rfl rfl (zr (by omega)) mk_X2_showByte ly_7 ml_2_116 (Nat.le_of_ble_eq_true rfl) (fun s227 hs227 => ?_)
                        obtain ⟨fs227, -⟩ := hs227
                        have Fs227 := Sm.tr Fs218 (Sm.wd fs227 (lo' := 7) (hi' := 18) (by decide) (by decide))
                        refine wa_iinc (v := (-8)) (lv' := fun y229 => [(7, .int y229), (8, .int v224), (0, .ref 7), (5, .long (gl σ 9 (v2).toNatClampNeg))]) (by decide) rfl (by decide) (fun _ => rfl) (fun y229 hy229 => ?_)
                        have ty229 := i_addT hy229.symm
                        clear hy229
                        refine wa_goto o_X2_showToken_106 (by decide) ?_
                        refine wa_pick [2, 3, 0] rfl ?_
                        exact ih219 _ (by ((try simp only [vp_in_iff, Int32.lt_iff_toInt_lt, Int32.le_iff_toInt_le, ← Int32.toInt_inj, Int32.reduceToInt, n_1, n_2, n_8, Int32.toNatClampNeg, Int64.lt_iff_toInt_lt, Int64.le_iff_toInt_le, ← Int64.toInt_inj, Int64.reduceToInt, Int32.toInt_toInt64, lg_cmp_ge, lg_cmp_le, lg_cmp_gt, lg_cmp_lt, lg_cmp_eq, Bool.false_eq_true, Bool.true_eq_false, reduceCtorEq, false_iff, true_iff, iff_true, iff_false, and_true, true_and, and_false, false_and, reduceIte, ite_true, ite_false, eq_self] at *)) <;> omega) _ _ ⟨Fs227, trivial⟩ rfl
                exact hi220 _ _ _ ⟨Fs216, trivial⟩ rfl
      · refine wa_iload rfl ?_
        refine wa_iconst (v := 4) (by decide) ?_
        refine wa_icmp_ge o_X2_showToken_62 (by decide) (fun h230 => ?_) (fun h230 => ?_)
        · refine wa_iload_n (i := 3) rfl rfl ?_
          refine wa_bipush (v := 42) (by decide) ?_
          refine wa_icmp_ne o_X2_showToken_89 (by decide) (fun h231 => ?_) (fun h231 => ?_)
          · refine wa_aload_n (i := 0) rfl rfl ?_
            refine wa_geti ck_2 fl_2_71 ly_7 ?_
            refine wa_if_le o_X2_showToken_102 (by decide) (fun h232 => ?_) (fun h232 => ?_)
            · refine wa_bipush (v := 56) (by decide) ?_
              refine wa_istoreD (lv' := [(7, .int 56), (5, .long x4), (4, .int v2), (3, .int v1), (0, .ref 7), (1, .int a0), (2, .ref 18)]) (by decide) rfl ?_
              refine wa_pick [4, 1, 0] rfl ?_
              have hi235 : ∀ (n9_106 : Nat) (l7 : Int32) (s233 : St), ((Sm 7 18 σ s233) ∧ (True)) → (l7.toInt + 8).toNat = n9_106 → WA G M_X2_showToken (ZM G M_X2_showToken d (fun r σ' => Sm 7 18 σ σ' ∧ True)) B_X2_showToken_106 [(0, .ref 7), (5, .long x4), (7, .int l7)] [] s233 := by
                intro n9_106
                induction n9_106 using Nat.strongRecOn with
                | _ n9_106 ih234 =>
                  intro l7 s233 i9 m9_106
                  obtain ⟨Fs233, -⟩ := i9
                  have ul7 := Int32.toInt_lt l7
                  have wl7 := Int32.le_toInt l7
                  refine wa_iload rfl ?_
                  refine wa_if_lt o_X2_showToken_140 (by decide) (fun h236 => ?_) (fun h236 => ?_)
                  · refine wa_return (st := []) rfl rfl ?_
                    exact ⟨Fs233, trivial⟩
                  · refine wa_lload rfl ?_
                    refine wa_iload rfl ?_
                    refine wa_lushr ?_
                    refine wa_topl (fun v237 hv237 => ?_)
                    clear hv237
                    refine wa_l2i ?_
                    refine wa_top (fun v238 hv238 => ?_)
                    clear hv238
                    refine wa_sipush (v := 255) (by decide) ?_
                    refine wa_iand ?_
                    refine wa_top (fun v239 hv239 => ?_)
                    have tv239 := i_andT hv239
                    clear hv239
                    refine wa_istoreD (lv' := [(8, .int v239), (0, .ref 7), (5, .long x4), (7, .int l7)]) (by decide) rfl ?_
                    refine wa_iload rfl ?_
                    refine wa_if_eq o_X2_showToken_134 (by decide) (fun h240 => ?_) (fun h240 => ?_)
                    · refine wa_iinc (v := (-8)) (lv' := fun y241 => [(7, .int y241), (8, .int v239), (0, .ref 7), (5, .long x4)]) (by decide) rfl (by decide) (fun _ => rfl) (fun y241 hy241 => ?_)
                      have ty241 := i_addT hy241.symm
                      clear hy241
                      refine wa_goto o_X2_showToken_106 (by decide) ?_
                      refine wa_pick [2, 3, 0] rfl ?_
                      exact ih234 _ (by ((try simp only [vp_in_iff, Int32.lt_iff_toInt_lt, Int32.le_iff_toInt_le, ← Int32.toInt_inj, Int32.reduceToInt, n_1, n_2, n_8, Int32.toNatClampNeg, Int64.lt_iff_toInt_lt, Int64.le_iff_toInt_le, ← Int64.toInt_inj, Int64.reduceToInt, Int32.toInt_toInt64, lg_cmp_ge, lg_cmp_le, lg_cmp_gt, lg_cmp_lt, lg_cmp_eq, Bool.false_eq_true, Bool.true_eq_false, reduceCtorEq, false_iff, true_iff, iff_true, iff_false, and_true, true_and, and_false, false_and, reduceIte, ite_true, ite_false, eq_self] at *)) <;> omega) _ _ ⟨Fs233, trivial⟩ rfl
                    · refine wa_aload_n (i := 0) rfl rfl ?_
                      refine wa_iload rfl ?_
                      refine wa_Vv (d9 := d - 1) [.int _] [] (sp_X2_showByte G (d := d - 1) (by omega) s233 _) (rfl) rfl rfl (zr (by omega)) mk_X2_showByte ly_7 ml_2_116 (Nat.le_of_ble_eq_true rfl) (fun s242 hs242 => ?_)
                      obtain ⟨fs242, -⟩ := hs242
                      have Fs242 := Sm.tr Fs233 (Sm.wd fs242 (lo' := 7) (hi' := 18) (by decide) (by decide))
                      refine wa_iinc (v := (-8)) (lv' := fun y244 => [(7, .int y244), (8, .int v239), (0, .ref 7), (5, .long x4)]) (by decide) rfl (by decide) (fun _ => rfl) (fun y244 hy244 => ?_)
                      have ty244 := i_addT hy244.symm
                      clear hy244
                      refine wa_goto o_X2_showToken_106 (by decide) ?_
                      refine wa_pick [2, 3, 0] rfl ?_
                      exact ih234 _ (by ((try simp only [vp_in_iff, Int32.lt_iff_toInt_lt, Int32.le_iff_toInt_le, ← Int32.toInt_inj, Int32.reduceToInt, n_1, n_2, n_8, Int32.toNatClampNeg, Int64.lt_iff_toInt_lt, Int64.le_iff_toInt_le, ← Int64.toInt_inj, Int64.reduceToInt, Int32.toInt_toInt64, lg_cmp_ge, lg_cmp_le, lg_cmp_gt, lg_cmp_lt, lg_cmp_eq, Bool.false_eq_true, Bool.true_eq_false, reduceCtorEq, false_iff, true_iff, iff_true, iff_false, and_true, true_and, and_false, false_and, reduceIte, ite_true, ite_false, eq_self] at *)) <;> omega) _ _ ⟨Fs242, trivial⟩ rfl
              exact hi235 _ _ _ ⟨(Sm.rf 7 18 σ), trivial⟩ rfl
            · refine wa_aload_n (i := 0) rfl rfl ?_
              refine wa_bipush (v := 32) (by decide) ?_
              refine wa_Vv (d9 := d - 1) [.int _] [] (sp_X2_showByte G (d := d - 1) (by omega) σ _) (rfl) rfl rfl (zr (by omega)) mk_X2_showByte ly_7 ml_2_116 (Nat.le_of_ble_eq_true rfl) (fun s245 hs245 => ?_)
              obtain ⟨fs245, -⟩ := hs245
              have Fs245 := Sm.tr (Sm.rf 7 18 σ) (Sm.wd fs245 (lo' := 7) (hi' := 18) (by decide) (by decide))
              refine wa_bipush (v := 56) (by decide) ?_
              refine wa_istoreD (lv' := [(7, .int 56), (5, .long x4), (4, .int v2), (3, .int v1), (0, .ref 7), (1, .int a0), (2, .ref 18)]) (by decide) rfl ?_
              refine wa_pick [4, 1, 0] rfl ?_
              have hi249 : ∀ (n9_106 : Nat) (l7 : Int32) (s247 : St), ((Sm 7 18 σ s247) ∧ (True)) → (l7.toInt + 8).toNat = n9_106 → WA G M_X2_showToken (ZM G M_X2_showToken d (fun r σ' => Sm 7 18 σ σ' ∧ True)) B_X2_showToken_106 [(0, .ref 7), (5, .long x4), (7, .int l7)] [] s247 := by
                intro n9_106
                induction n9_106 using Nat.strongRecOn with
                | _ n9_106 ih248 =>
                  intro l7 s247 i9 m9_106
                  obtain ⟨Fs247, -⟩ := i9
                  have ul7 := Int32.toInt_lt l7
                  have wl7 := Int32.le_toInt l7
                  refine wa_iload rfl ?_
                  refine wa_if_lt o_X2_showToken_140 (by decide) (fun h250 => ?_) (fun h250 => ?_)
                  · refine wa_return (st := []) rfl rfl ?_
                    exact ⟨Fs247, trivial⟩
                  · refine wa_lload rfl ?_
                    refine wa_iload rfl ?_
                    refine wa_lushr ?_
                    refine wa_topl (fun v251 hv251 => ?_)
                    clear hv251
                    refine wa_l2i ?_
                    refine wa_top (fun v252 hv252 => ?_)
                    clear hv252
                    refine wa_sipush (v := 255) (by decide) ?_
                    refine wa_iand ?_
                    refine wa_top (fun v253 hv253 => ?_)
                    have tv253 := i_andT hv253
                    clear hv253
                    refine wa_istoreD (lv' := [(8, .int v253), (0, .ref 7), (5, .long x4), (7, .int l7)]) (by decide) rfl ?_
                    refine wa_iload rfl ?_
                    refine wa_if_eq o_X2_showToken_134 (by decide) (fun h254 => ?_) (fun h254 => ?_)
                    · refine wa_iinc (v := (-8)) (lv' := fun y255 => [(7, .int y255), (8, .int v253), (0, .ref 7), (5, .long x4)]) (by decide) rfl (by decide) (fun _ => rfl) (fun y255 hy255 => ?_)
                      have ty255 := i_addT hy255.symm
                      clear hy255
                      refine wa_goto o_X2_showToken_106 (by decide) ?_
                      refine wa_pick [2, 3, 0] rfl ?_
                      exact ih248 _ (by ((try simp only [vp_in_iff, Int32.lt_iff_toInt_lt, Int32.le_iff_toInt_le, ← Int32.toInt_inj, Int32.reduceToInt, n_1, n_2, n_8, Int32.toNatClampNeg, Int64.lt_iff_toInt_lt, Int64.le_iff_toInt_le, ← Int64.toInt_inj, Int64.reduceToInt, Int32.toInt_toInt64, lg_cmp_ge, lg_cmp_le, lg_cmp_gt, lg_cmp_lt, lg_cmp_eq, Bool.false_eq_true, Bool.true_eq_false, reduceCtorEq, false_iff, true_iff, iff_true, iff_false, and_true, true_and, and_false, false_and, reduceIte, ite_true, ite_false, eq_self] at *)) <;> omega) _ _ ⟨Fs247, trivial⟩ rfl
                    · refine wa_aload_n (i := 0) rfl rfl ?_
                      refine wa_iload rfl ?_
                      refine wa_Vv (d9 := d - 1) [.int _] [] (sp_X2_showByte G (d := d - 1) (by omega) s247 _) (rfl) rfl rfl (zr (by omega)) mk_X2_showByte ly_7 ml_2_116 (Nat.le_of_ble_eq_true rfl) (fun s256 hs256 => ?_)
                      obtain ⟨fs256, -⟩ := hs256
                      have Fs256 := Sm.tr Fs247 (Sm.wd fs256 (lo' := 7) (hi' := 18) (by decide) (by decide))
                      refine wa_iinc (v := (-8)) (lv' := fun y258 => [(7, .int y258), (8, .int v253), (0, .ref 7), (5, .long x4)]) (by decide) rfl (by decide) (fun _ => rfl) (fun y258 hy258 => ?_)
                      have ty258 := i_addT hy258.symm
                      clear hy258
                      refine wa_goto o_X2_showToken_106 (by decide) ?_
                      refine wa_pick [2, 3, 0] rfl ?_
                      exact ih248 _ (by ((try simp only [vp_in_iff, Int32.lt_iff_toInt_lt, Int32.le_iff_toInt_le, ← Int32.toInt_inj, Int32.reduceToInt, n_1, n_2, n_8, Int32.toNatClampNeg, Int64.lt_iff_toInt_lt, Int64.le_iff_toInt_le, ← Int64.toInt_inj, Int64.reduceToInt, Int32.toInt_toInt64, lg_cmp_ge, lg_cmp_le, lg_cmp_gt, lg_cmp_lt, lg_cmp_eq, Bool.false_eq_true, Bool.true_eq_false, reduceCtorEq, false_iff, true_iff, iff_true, iff_false, and_true, true_and, and_false, false_and, reduceIte, ite_true, ite_false, eq_self] at *)) <;> omega) _ _ ⟨Fs256, trivial⟩ rfl
              exact hi249 _ _ _ ⟨Fs245, trivial⟩ rfl
          · refine wa_iload rfl ?_
            refine wa_if_lt o_X2_showToken_89 (by decide) (fun h259 => ?_) (fun h259 => ?_)
            · refine wa_aload_n (i := 0) rfl rfl ?_
              refine wa_geti ck_2 fl_2_71 ly_7 ?_
              refine wa_if_le o_X2_showToken_102 (by decide) (fun h260 => ?_) (fun h260 => ?_)
              · refine wa_bipush (v := 56) (by decide) ?_
                refine wa_istoreD (lv' := [(7, .int 56), (5, .long x4), (4, .int v2), (3, .int v1), (0, .ref 7), (1, .int a0), (2, .ref 18)]) (by decide) rfl ?_
                refine wa_pick [4, 1, 0] rfl ?_
                have hi263 : ∀ (n9_106 : Nat) (l7 : Int32) (s261 : St), ((Sm 7 18 σ s261) ∧ (True)) → (l7.toInt + 8).toNat = n9_106 → WA G M_X2_showToken (ZM G M_X2_showToken d (fun r σ' => Sm 7 18 σ σ' ∧ True)) B_X2_showToken_106 [(0, .ref 7), (5, .long x4), (7, .int l7)] [] s261 := by
                  intro n9_106
                  induction n9_106 using Nat.strongRecOn with
                  | _ n9_106 ih262 =>
                    intro l7 s261 i9 m9_106
                    obtain ⟨Fs261, -⟩ := i9
                    have ul7 := Int32.toInt_lt l7
                    have wl7 := Int32.le_toInt l7
                    refine wa_iload rfl ?_
                    refine wa_if_lt o_X2_showToken_140 (by decide) (fun h264 => ?_) (fun h264 => ?_)
                    · refine wa_return (st := []) rfl rfl ?_
                      exact ⟨Fs261, trivial⟩
                    · refine wa_lload rfl ?_
                      refine wa_iload rfl ?_
                      refine wa_lushr ?_
                      refine wa_topl (fun v265 hv265 => ?_)
                      clear hv265
                      refine wa_l2i ?_
                      refine wa_top (fun v266 hv266 => ?_)
                      clear hv266
                      refine wa_sipush (v := 255) (by decide) ?_
                      refine wa_iand ?_
                      refine wa_top (fun v267 hv267 => ?_)
                      have tv267 := i_andT hv267
                      clear hv267
                      refine wa_istoreD (lv' := [(8, .int v267), (0, .ref 7), (5, .long x4), (7, .int l7)]) (by decide) rfl ?_
                      refine wa_iload rfl ?_
                      refine wa_if_eq o_X2_showToken_134 (by decide) (fun h268 => ?_) (fun h268 => ?_)
                      · refine wa_iinc (v := (-8)) (lv' := fun y269 => [(7, .int y269), (8, .int v267), (0, .ref 7), (5, .long x4)]) (by decide) rfl (by decide) (fun _ => rfl) (fun y269 hy269 => ?_)
                        have ty269 := i_addT hy269.symm
                        clear hy269
                        refine wa_goto o_X2_showToken_106 (by decide) ?_
                        refine wa_pick [2, 3, 0] rfl ?_
                        exact ih262 _ (by ((try simp only [vp_in_iff, Int32.lt_iff_toInt_lt, Int32.le_iff_toInt_le, ← Int32.toInt_inj, Int32.reduceToInt, n_1, n_2, n_8, Int32.toNatClampNeg, Int64.lt_iff_toInt_lt, Int64.le_iff_toInt_le, ← Int64.toInt_inj, Int64.reduceToInt, Int32.toInt_toInt64, lg_cmp_ge, lg_cmp_le, lg_cmp_gt, lg_cmp_lt, lg_cmp_eq, Bool.false_eq_true, Bool.true_eq_false, reduceCtorEq, false_iff, true_iff, iff_true, iff_false, and_true, true_and, and_false, false_and, reduceIte, ite_true, ite_false, eq_self] at *)) <;> omega) _ _ ⟨Fs261, trivial⟩ rfl
                      · refine wa_aload_n (i := 0) rfl rfl ?_
                        refine wa_iload rfl ?_
                        refine wa_Vv (d9 := d - 1) [.int _] [] (sp_X2_showByte G (d := d - 1) (by omega) s261 _) (rfl) rfl rfl (zr (by omega)) mk_X2_showByte ly_7 ml_2_116 (Nat.le_of_ble_eq_true rfl) (fun s270 hs270 => ?_)
                        obtain ⟨fs270, -⟩ := hs270
                        have Fs270 := Sm.tr Fs261 (Sm.wd fs270 (lo' := 7) (hi' := 18) (by decide) (by decide))
                        refine wa_iinc (v := (-8)) (lv' := fun y272 => [(7, .int y272), (8, .int v267), (0, .ref 7), (5, .long x4)]) (by decide) rfl (by decide) (fun _ => rfl) (fun y272 hy272 => ?_)
                        have ty272 := i_addT hy272.symm
                        clear hy272
                        refine wa_goto o_X2_showToken_106 (by decide) ?_
                        refine wa_pick [2, 3, 0] rfl ?_
                        exact ih262 _ (by ((try simp only [vp_in_iff, Int32.lt_iff_toInt_lt, Int32.le_iff_toInt_le, ← Int32.toInt_inj, Int32.reduceToInt, n_1, n_2, n_8, Int32.toNatClampNeg, Int64.lt_iff_toInt_lt, Int64.le_iff_toInt_le, ← Int64.toInt_inj, Int64.reduceToInt, Int32.toInt_toInt64, lg_cmp_ge, lg_cmp_le, lg_cmp_gt, lg_cmp_lt, lg_cmp_eq, Bool.false_eq_true, Bool.true_eq_false, reduceCtorEq, false_iff, true_iff, iff_true, iff_false, and_true, true_and, and_false, false_and, reduceIte, ite_true, ite_false, eq_self] at *)) <;> omega) _ _ ⟨Fs270, trivial⟩ rfl
                exact hi263 _ _ _ ⟨(Sm.rf 7 18 σ), trivial⟩ rfl
              · refine wa_aload_n (i := 0) rfl rfl ?_
                refine wa_bipush (v := 32) (by decide) ?_
                refine wa_Vv (d9 := d - 1) [.int _] [] (sp_X2_showByte G (d := d - 1) (by omega) σ _) (rfl) rfl rfl (zr (by omega)) mk_X2_showByte ly_7 ml_2_116 (Nat.le_of_ble_eq_true rfl) (fun s273 hs273 => ?_)
                obtain ⟨fs273, -⟩ := hs273
                have Fs273 := Sm.tr (Sm.rf 7 18 σ) (Sm.wd fs273 (lo' := 7) (hi' := 18) (by decide) (by decide))
                refine wa_bipush (v := 56) (by decide) ?_
                refine wa_istoreD (lv' := [(7, .int 56), (5, .long x4), (4, .int v2), (3, .int v1), (0, .ref 7), (1, .int a0), (2, .ref 18)]) (by decide) rfl ?_
                refine wa_pick [4, 1, 0] rfl ?_
                have hi277 : ∀ (n9_106 : Nat) (l7 : Int32) (s275 : St), ((Sm 7 18 σ s275) ∧ (True)) → (l7.toInt + 8).toNat = n9_106 → WA G M_X2_showToken (ZM G M_X2_showToken d (fun r σ' => Sm 7 18 σ σ' ∧ True)) B_X2_showToken_106 [(0, .ref 7), (5, .long x4), (7, .int l7)] [] s275 := by
                  intro n9_106
                  induction n9_106 using Nat.strongRecOn with
                  | _ n9_106 ih276 =>
                    intro l7 s275 i9 m9_106
                    obtain ⟨Fs275, -⟩ := i9
                    have ul7 := Int32.toInt_lt l7
                    have wl7 := Int32.le_toInt l7
                    refine wa_iload rfl ?_
                    refine wa_if_lt o_X2_showToken_140 (by decide) (fun h278 => ?_) (fun h278 => ?_)
                    · refine wa_return (st := []) rfl rfl ?_
                      exact ⟨Fs275, trivial⟩
                    · refine wa_lload rfl ?_
                      refine wa_iload rfl ?_
                      refine wa_lushr ?_
                      refine wa_topl (fun v279 hv279 => ?_)
                      clear hv279
                      refine wa_l2i ?_
                      refine wa_top (fun v280 hv280 => ?_)
                      clear hv280
                      refine wa_sipush (v := 255) (by decide) ?_
                      refine wa_iand ?_
                      refine wa_top (fun v281 hv281 => ?_)
                      have tv281 := i_andT hv281
                      clear hv281
                      refine wa_istoreD (lv' := [(8, .int v281), (0, .ref 7), (5, .long x4), (7, .int l7)]) (by decide) rfl ?_
                      refine wa_iload rfl ?_
                      refine wa_if_eq o_X2_showToken_134 (by decide) (fun h282 => ?_) (fun h282 => ?_)
                      · refine wa_iinc (v := (-8)) (lv' := fun y283 => [(7, .int y283), (8, .int v281), (0, .ref 7), (5, .long x4)]) (by decide) rfl (by decide) (fun _ => rfl) (fun y283 hy283 => ?_)
                        have ty283 := i_addT hy283.symm
                        clear hy283
                        refine wa_goto o_X2_showToken_106 (by decide) ?_
                        refine wa_pick [2, 3, 0] rfl ?_
                        exact ih276 _ (by ((try simp only [vp_in_iff, Int32.lt_iff_toInt_lt, Int32.le_iff_toInt_le, ← Int32.toInt_inj, Int32.reduceToInt, n_1, n_2, n_8, Int32.toNatClampNeg, Int64.lt_iff_toInt_lt, Int64.le_iff_toInt_le, ← Int64.toInt_inj, Int64.reduceToInt, Int32.toInt_toInt64, lg_cmp_ge, lg_cmp_le, lg_cmp_gt, lg_cmp_lt, lg_cmp_eq, Bool.false_eq_true, Bool.true_eq_false, reduceCtorEq, false_iff, true_iff, iff_true, iff_false, and_true, true_and, and_false, false_and, reduceIte, ite_true, ite_false, eq_self] at *)) <;> omega) _ _ ⟨Fs275, trivial⟩ rfl
                      · refine wa_aload_n (i := 0) rfl rfl ?_
                        refine wa_iload rfl ?_
                        refine wa_Vv (d9 := d - 1) [.int _] [] (sp_X2_showByte G (d := d - 1) (by omega) s275 _) (rfl) rfl rfl (zr (by omega)) mk_X2_showByte ly_7 ml_2_116 (Nat.le_of_ble_eq_true rfl) (fun s284 hs284 => ?_)
                        obtain ⟨fs284, -⟩ := hs284
                        have Fs284 := Sm.tr Fs275 (Sm.wd fs284 (lo' := 7) (hi' := 18) (by decide) (by decide))
                        refine wa_iinc (v := (-8)) (lv' := fun y286 => [(7, .int y286), (8, .int v281), (0, .ref 7), (5, .long x4)]) (by decide) rfl (by decide) (fun _ => rfl) (fun y286 hy286 => ?_)
                        have ty286 := i_addT hy286.symm
                        clear hy286
                        refine wa_goto o_X2_showToken_106 (by decide) ?_
                        refine wa_pick [2, 3, 0] rfl ?_
                        exact ih276 _ (by ((try simp only [vp_in_iff, Int32.lt_iff_toInt_lt, Int32.le_iff_toInt_le, ← Int32.toInt_inj, Int32.reduceToInt, n_1, n_2, n_8, Int32.toNatClampNeg, Int64.lt_iff_toInt_lt, Int64.le_iff_toInt_le, ← Int64.toInt_inj, Int64.reduceToInt, Int32.toInt_toInt64, lg_cmp_ge, lg_cmp_le, lg_cmp_gt, lg_cmp_lt, lg_cmp_eq, Bool.false_eq_true, Bool.true_eq_false, reduceCtorEq, false_iff, true_iff, iff_true, iff_false, and_true, true_and, and_false, false_and, reduceIte, ite_true, ite_false, eq_self] at *)) <;> omega) _ _ ⟨Fs284, trivial⟩ rfl
                exact hi277 _ _ _ ⟨Fs273, trivial⟩ rfl
            · refine wa_iload rfl ?_
              refine wa_bipush (v := 24) (by decide) ?_
              refine wa_icmp_ge o_X2_showToken_89 (by decide) (fun h287 => ?_) (fun h287 => ?_)
              · refine wa_aload_n (i := 0) rfl rfl ?_
                refine wa_geti ck_2 fl_2_71 ly_7 ?_
                refine wa_if_le o_X2_showToken_102 (by decide) (fun h288 => ?_) (fun h288 => ?_)
                · refine wa_bipush (v := 56) (by decide) ?_
                  refine wa_istoreD (lv' := [(7, .int 56), (5, .long x4), (4, .int v2), (3, .int v1), (0, .ref 7), (1, .int a0), (2, .ref 18)]) (by decide) rfl ?_
                  refine wa_pick [4, 1, 0] rfl ?_
                  have hi291 : ∀ (n9_106 : Nat) (l7 : Int32) (s289 : St), ((Sm 7 18 σ s289) ∧ (True)) → (l7.toInt + 8).toNat = n9_106 → WA G M_X2_showToken (ZM G M_X2_showToken d (fun r σ' => Sm 7 18 σ σ' ∧ True)) B_X2_showToken_106 [(0, .ref 7), (5, .long x4), (7, .int l7)] [] s289 := by
                    intro n9_106
                    induction n9_106 using Nat.strongRecOn with
                    | _ n9_106 ih290 =>
                      intro l7 s289 i9 m9_106
                      obtain ⟨Fs289, -⟩ := i9
                      have ul7 := Int32.toInt_lt l7
                      have wl7 := Int32.le_toInt l7
                      refine wa_iload rfl ?_
                      refine wa_if_lt o_X2_showToken_140 (by decide) (fun h292 => ?_) (fun h292 => ?_)
                      · refine wa_return (st := []) rfl rfl ?_
                        exact ⟨Fs289, trivial⟩
                      · refine wa_lload rfl ?_
                        refine wa_iload rfl ?_
                        refine wa_lushr ?_
                        refine wa_topl (fun v293 hv293 => ?_)
                        clear hv293
                        refine wa_l2i ?_
                        refine wa_top (fun v294 hv294 => ?_)
                        clear hv294
                        refine wa_sipush (v := 255) (by decide) ?_
                        refine wa_iand ?_
                        refine wa_top (fun v295 hv295 => ?_)
                        have tv295 := i_andT hv295
                        clear hv295
                        refine wa_istoreD (lv' := [(8, .int v295), (0, .ref 7), (5, .long x4), (7, .int l7)]) (by decide) rfl ?_
                        refine wa_iload rfl ?_
                        refine wa_if_eq o_X2_showToken_134 (by decide) (fun h296 => ?_) (fun h296 => ?_)
                        · refine wa_iinc (v := (-8)) (lv' := fun y297 => [(7, .int y297), (8, .int v295), (0, .ref 7), (5, .long x4)]) (by decide) rfl (by decide) (fun _ => rfl) (fun y297 hy297 => ?_)
                          have ty297 := i_addT hy297.symm
                          clear hy297
                          refine wa_goto o_X2_showToken_106 (by decide) ?_
                          refine wa_pick [2, 3, 0] rfl ?_
                          exact ih290 _ (by ((try simp only [vp_in_iff, Int32.lt_iff_toInt_lt, Int32.le_iff_toInt_le, ← Int32.toInt_inj, Int32.reduceToInt, n_1, n_2, n_8, Int32.toNatClampNeg, Int64.lt_iff_toInt_lt, Int64.le_iff_toInt_le, ← Int64.toInt_inj, Int64.reduceToInt, Int32.toInt_toInt64, lg_cmp_ge, lg_cmp_le, lg_cmp_gt, lg_cmp_lt, lg_cmp_eq, Bool.false_eq_true, Bool.true_eq_false, reduceCtorEq, false_iff, true_iff, iff_true, iff_false, and_true, true_and, and_false, false_and, reduceIte, ite_true, ite_false, eq_self] at *)) <;> omega) _ _ ⟨Fs289, trivial⟩ rfl
                        · refine wa_aload_n (i := 0) rfl rfl ?_
                          refine wa_iload rfl ?_
                          refine wa_Vv (d9 := d - 1) [.int _] [] (sp_X2_showByte G (d := d - 1) (by omega) s289 _) (rfl) rfl rfl (zr (by omega)) mk_X2_showByte ly_7 ml_2_116 (Nat.le_of_ble_eq_true rfl) (fun s298 hs298 => ?_)
                          obtain ⟨fs298, -⟩ := hs298
                          have Fs298 := Sm.tr Fs289 (Sm.wd fs298 (lo' := 7) (hi' := 18) (by decide) (by decide))
                          refine wa_iinc (v := (-8)) (lv' := fun y300 => [(7, .int y300), (8, .int v295), (0, .ref 7), (5, .long x4)]) (by decide) rfl (by decide) (fun _ => rfl) (fun y300 hy300 => ?_)
                          have ty300 := i_addT hy300.symm
                          clear hy300
                          refine wa_goto o_X2_showToken_106 (by decide) ?_
                          refine wa_pick [2, 3, 0] rfl ?_
                          exact ih290 _ (by ((try simp only [vp_in_iff, Int32.lt_iff_toInt_lt, Int32.le_iff_toInt_le, ← Int32.toInt_inj, Int32.reduceToInt, n_1, n_2, n_8, Int32.toNatClampNeg, Int64.lt_iff_toInt_lt, Int64.le_iff_toInt_le, ← Int64.toInt_inj, Int64.reduceToInt, Int32.toInt_toInt64, lg_cmp_ge, lg_cmp_le, lg_cmp_gt, lg_cmp_lt, lg_cmp_eq, Bool.false_eq_true, Bool.true_eq_false, reduceCtorEq, false_iff, true_iff, iff_true, iff_false, and_true, true_and, and_false, false_and, reduceIte, ite_true, ite_false, eq_self] at *)) <;> omega) _ _ ⟨Fs298, trivial⟩ rfl
                  exact hi291 _ _ _ ⟨(Sm.rf 7 18 σ), trivial⟩ rfl
                · refine wa_aload_n (i := 0) rfl rfl ?_
                  refine wa_bipush (v := 32) (by decide) ?_
                  refine wa_Vv (d9 := d - 1) [.int _] [] (sp_X2_showByte G (d := d - 1) (by omega) σ _) (rfl) rfl rfl (zr (by omega)) mk_X2_showByte ly_7 ml_2_116 (Nat.le_of_ble_eq_true rfl) (fun s301 hs301 => ?_)
                  obtain ⟨fs301, -⟩ := hs301
                  have Fs301 := Sm.tr (Sm.rf 7 18 σ) (Sm.wd fs301 (lo' := 7) (hi' := 18) (by decide) (by decide))
                  refine wa_bipush (v := 56) (by decide) ?_
                  refine wa_istoreD (lv' := [(7, .int 56), (5, .long x4), (4, .int v2), (3, .int v1), (0, .ref 7), (1, .int a0), (2, .ref 18)]) (by decide) rfl ?_
                  refine wa_pick [4, 1, 0] rfl ?_
                  have hi305 : ∀ (n9_106 : Nat) (l7 : Int32) (s303 : St), ((Sm 7 18 σ s303) ∧ (True)) → (l7.toInt + 8).toNat = n9_106 → WA G M_X2_showToken (ZM G M_X2_showToken d (fun r σ' => Sm 7 18 σ σ' ∧ True)) B_X2_showToken_106 [(0, .ref 7), (5, .long x4), (7, .int l7)] [] s303 := by
                    intro n9_106
                    induction n9_106 using Nat.strongRecOn with
                    | _ n9_106 ih304 =>
                      intro l7 s303 i9 m9_106
                      obtain ⟨Fs303, -⟩ := i9
                      have ul7 := Int32.toInt_lt l7
                      have wl7 := Int32.le_toInt l7
                      refine wa_iload rfl ?_
                      refine wa_if_lt o_X2_showToken_140 (by decide) (fun h306 => ?_) (fun h306 => ?_)
                      · refine wa_return (st := []) rfl rfl ?_
                        exact ⟨Fs303, trivial⟩
                      · refine wa_lload rfl ?_
                        refine wa_iload rfl ?_
                        refine wa_lushr ?_
                        refine wa_topl (fun v307 hv307 => ?_)
                        clear hv307
                        refine wa_l2i ?_
                        refine wa_top (fun v308 hv308 => ?_)
                        clear hv308
                        refine wa_sipush (v := 255) (by decide) ?_
                        refine wa_iand ?_
                        refine wa_top (fun v309 hv309 => ?_)
                        have tv309 := i_andT hv309
                        clear hv309
                        refine wa_istoreD (lv' := [(8, .int v309), (0, .ref 7), (5, .long x4), (7, .int l7)]) (by decide) rfl ?_
                        refine wa_iload rfl ?_
                        refine wa_if_eq o_X2_showToken_134 (by decide) (fun h310 => ?_) (fun h310 => ?_)
                        · refine wa_iinc (v := (-8)) (lv' := fun y311 => [(7, .int y311), (8, .int v309), (0, .ref 7), (5, .long x4)]) (by decide) rfl (by decide) (fun _ => rfl) (fun y311 hy311 => ?_)
                          have ty311 := i_addT hy311.symm
                          clear hy311
                          refine wa_goto o_X2_showToken_106 (by decide) ?_
                          refine wa_pick [2, 3, 0] rfl ?_
                          exact ih304 _ (by ((try simp only [vp_in_iff, Int32.lt_iff_toInt_lt, Int32.le_iff_toInt_le, ← Int32.toInt_inj, Int32.reduceToInt, n_1, n_2, n_8, Int32.toNatClampNeg, Int64.lt_iff_toInt_lt, Int64.le_iff_toInt_le, ← Int64.toInt_inj, Int64.reduceToInt, Int32.toInt_toInt64, lg_cmp_ge, lg_cmp_le, lg_cmp_gt, lg_cmp_lt, lg_cmp_eq, Bool.false_eq_true, Bool.true_eq_false, reduceCtorEq, false_iff, true_iff, iff_true, iff_false, and_true, true_and, and_false, false_and, reduceIte, ite_true, ite_false, eq_self] at *)) <;> omega) _ _ ⟨Fs303, trivial⟩ rfl
                        · refine wa_aload_n (i := 0) rfl rfl ?_
                          refine wa_iload rfl ?_
                          refine wa_Vv (d9 := d - 1) [.int _] [] (sp_X2_showByte G (d := d - 1) (by omega) s303 _) (rfl) rfl rfl (zr (by omega)) mk_X2_showByte ly_7 ml_2_116 (Nat.le_of_ble_eq_true rfl) (fun s312 hs312 => ?_)
                          obtain ⟨fs312, -⟩ := hs312
                          have Fs312 := Sm.tr Fs303 (Sm.wd fs312 (lo' := 7) (hi' := 18) (by decide) (by decide))
                          refine wa_iinc (v := (-8)) (lv' := fun y314 => [(7, .int y314), (8, .int v309), (0, .ref 7), (5, .long x4)]) (by decide) rfl (by decide) (fun _ => rfl) (fun y314 hy314 => ?_)
                          have ty314 := i_addT hy314.symm
                          clear hy314
                          refine wa_goto o_X2_showToken_106 (by decide) ?_
                          refine wa_pick [2, 3, 0] rfl ?_
                          exact ih304 _ (by ((try simp only [vp_in_iff, Int32.lt_iff_toInt_lt, Int32.le_iff_toInt_le, ← Int32.toInt_inj, Int32.reduceToInt, n_1, n_2, n_8, Int32.toNatClampNeg, Int64.lt_iff_toInt_lt, Int64.le_iff_toInt_le, ← Int64.toInt_inj, Int64.reduceToInt, Int32.toInt_toInt64, lg_cmp_ge, lg_cmp_le, lg_cmp_gt, lg_cmp_lt, lg_cmp_eq, Bool.false_eq_true, Bool.true_eq_false, reduceCtorEq, false_iff, true_iff, iff_true, iff_false, and_true, true_and, and_false, false_and, reduceIte, ite_true, ite_false, eq_self] at *)) <;> omega) _ _ ⟨Fs312, trivial⟩ rfl
                  exact hi305 _ _ _ ⟨Fs301, trivial⟩ rfl
              · have mh287 := nle_mx h287
                refine wa_aload_n (i := 0) rfl rfl ?_
                refine wa_getr ck_2 fl_2_15 ly_7 rf_7_1 ?_
                refine wa_iload rfl ?_
                refine wa_lald ly_9 (by ((try simp only [vp_in_iff, Int32.lt_iff_toInt_lt, Int32.le_iff_toInt_le, ← Int32.toInt_inj, Int32.reduceToInt, n_1, n_2, n_8, Int32.toNatClampNeg, Int64.lt_iff_toInt_lt, Int64.le_iff_toInt_le, ← Int64.toInt_inj, Int64.reduceToInt, Int32.toInt_toInt64, lg_cmp_ge, lg_cmp_le, lg_cmp_gt, lg_cmp_lt, lg_cmp_eq, Bool.false_eq_true, Bool.true_eq_false, reduceCtorEq, false_iff, true_iff, iff_true, iff_false, and_true, true_and, and_false, false_and, reduceIte, ite_true, ite_false, eq_self] at *)) <;> omega) ?_
                refine wa_lstoreD (lv' := [(5, .long (gl σ 9 (v2).toNatClampNeg)), (4, .int v2), (3, .int v1), (0, .ref 7), (1, .int a0), (2, .ref 18)]) (by decide) rfl ?_
                refine wa_aload_n (i := 0) rfl rfl ?_
                refine wa_geti ck_2 fl_2_71 ly_7 ?_
                refine wa_if_le o_X2_showToken_102 (by decide) (fun h315 => ?_) (fun h315 => ?_)
                · refine wa_bipush (v := 56) (by decide) ?_
                  refine wa_istoreD (lv' := [(7, .int 56), (5, .long (gl σ 9 (v2).toNatClampNeg)), (4, .int v2), (3, .int v1), (0, .ref 7), (1, .int a0), (2, .ref 18)]) (by decide) rfl ?_
                  refine wa_pick [4, 1, 0] rfl ?_
                  have hi318 : ∀ (n9_106 : Nat) (l7 : Int32) (s316 : St), ((Sm 7 18 σ s316) ∧ (True)) → (l7.toInt + 8).toNat = n9_106 → WA G M_X2_showToken (ZM G M_X2_showToken d (fun r σ' => Sm 7 18 σ σ' ∧ True)) B_X2_showToken_106 [(0, .ref 7), (5, .long (gl σ 9 (v2).toNatClampNeg)), (7, .int l7)] [] s316 := by
                    intro n9_106
                    induction n9_106 using Nat.strongRecOn with
                    | _ n9_106 ih317 =>
                      intro l7 s316 i9 m9_106
                      obtain ⟨Fs316, -⟩ := i9
                      have ul7 := Int32.toInt_lt l7
                      have wl7 := Int32.le_toInt l7
                      refine wa_iload rfl ?_
                      refine wa_if_lt o_X2_showToken_140 (by decide) (fun h319 => ?_) (fun h319 => ?_)
                      · refine wa_return (st := []) rfl rfl ?_
                        exact ⟨Fs316, trivial⟩
                      · refine wa_lload rfl ?_
                        refine wa_iload rfl ?_
                        refine wa_lushr ?_
                        refine wa_topl (fun v320 hv320 => ?_)
                        clear hv320
                        refine wa_l2i ?_
                        refine wa_top (fun v321 hv321 => ?_)
                        clear hv321
                        refine wa_sipush (v := 255) (by decide) ?_
                        refine wa_iand ?_
                        refine wa_top (fun v322 hv322 => ?_)
                        have tv322 := i_andT hv322
                        clear hv322
                        refine wa_istoreD (lv' := [(8, .int v322), (0, .ref 7), (5, .long (gl σ 9 (v2).toNatClampNeg)), (7, .int l7)]) (by decide) rfl ?_
                        refine wa_iload rfl ?_
                        refine wa_if_eq o_X2_showToken_134 (by decide) (fun h323 => ?_) (fun h323 => ?_)
                        · refine wa_iinc (v := (-8)) (lv' := fun y324 => [(7, .int y324), (8, .int v322), (0, .ref 7), (5, .long (gl σ 9 (v2).toNatClampNeg))]) (by decide) rfl (by decide) (fun _ => rfl) (fun y324 hy324 => ?_)
                          have ty324 := i_addT hy324.symm
                          clear hy324
                          refine wa_goto o_X2_showToken_106 (by decide) ?_
                          refine wa_pick [2, 3, 0] rfl ?_
                          exact ih317 _ (by ((try simp only [vp_in_iff, Int32.lt_iff_toInt_lt, Int32.le_iff_toInt_le, ← Int32.toInt_inj, Int32.reduceToInt, n_1, n_2, n_8, Int32.toNatClampNeg, Int64.lt_iff_toInt_lt, Int64.le_iff_toInt_le, ← Int64.toInt_inj, Int64.reduceToInt, Int32.toInt_toInt64, lg_cmp_ge, lg_cmp_le, lg_cmp_gt, lg_cmp_lt, lg_cmp_eq, Bool.false_eq_true, Bool.true_eq_false, reduceCtorEq, false_iff, true_iff, iff_true, iff_false, and_true, true_and, and_false, false_and, reduceIte, ite_true, ite_false, eq_self] at *)) <;> omega) _ _ ⟨Fs316, trivial⟩ rfl
                        · refine wa_aload_n (i := 0) rfl rfl ?_
                          refine wa_iload rfl ?_
                          refine wa_Vv (d9 := d - 1) [.int _] [] (sp_X2_showByte G (d := d - 1) (by omega) s316 _) (rfl) rfl rfl (zr (by omega)) mk_X2_showByte ly_7 ml_2_116 (Nat.le_of_ble_eq_true rfl) (fun s325 hs325 => ?_)
                          obtain ⟨fs325, -⟩ := hs325
                          have Fs325 := Sm.tr Fs316 (Sm.wd fs325 (lo' := 7) (hi' := 18) (by decide) (by decide))
                          refine wa_iinc (v := (-8)) (lv' := fun y327 => [(7, .int y327), (8, .int v322), (0, .ref 7), (5, .long (gl σ 9 (v2).toNatClampNeg))]) (by decide) rfl (by decide) (fun _ => rfl) (fun y327 hy327 => ?_)
                          have ty327 := i_addT hy327.symm
                          clear hy327
                          refine wa_goto o_X2_showToken_106 (by decide) ?_
                          refine wa_pick [2, 3, 0] rfl ?_
                          exact ih317 _ (by ((try simp only [vp_in_iff, Int32.lt_iff_toInt_lt, Int32.le_iff_toInt_le, ← Int32.toInt_inj, Int32.reduceToInt, n_1, n_2, n_8, Int32.toNatClampNeg, Int64.lt_iff_toInt_lt, Int64.le_iff_toInt_le, ← Int64.toInt_inj, Int64.reduceToInt, Int32.toInt_toInt64, lg_cmp_ge, lg_cmp_le, lg_cmp_gt, lg_cmp_lt, lg_cmp_eq, Bool.false_eq_true, Bool.true_eq_false, reduceCtorEq, false_iff, true_iff, iff_true, iff_false, and_true, true_and, and_false, false_and, reduceIte, ite_true, ite_false, eq_self] at *)) <;> omega) _ _ ⟨Fs325, trivial⟩ rfl
                  exact hi318 _ _ _ ⟨(Sm.rf 7 18 σ), trivial⟩ rfl
                · refine wa_aload_n (i := 0) rfl rfl ?_
                  refine wa_bipush (v := 32) (by decide) ?_
                  refine wa_Vv (d9 := d - 1) [.int _] [] (sp_X2_showByte G (d := d - 1) (by omega) σ _) (rfl) rfl rfl (zr (by omega)) mk_X2_showByte ly_7 ml_2_116 (Nat.le_of_ble_eq_true rfl) (fun s328 hs328 => ?_)
                  obtain ⟨fs328, -⟩ := hs328
                  have Fs328 := Sm.tr (Sm.rf 7 18 σ) (Sm.wd fs328 (lo' := 7) (hi' := 18) (by decide) (by decide))
                  refine wa_bipush (v := 56) (by decide) ?_
                  refine wa_istoreD (lv' := [(7, .int 56), (5, .long (gl σ 9 (v2).toNatClampNeg)), (4, .int v2), (3, .int v1), (0, .ref 7), (1, .int a0), (2, .ref 18)]) (by decide) rfl ?_
                  refine wa_pick [4, 1, 0] rfl ?_
                  have hi332 : ∀ (n9_106 : Nat) (l7 : Int32) (s330 : St), ((Sm 7 18 σ s330) ∧ (True)) → (l7.toInt + 8).toNat = n9_106 → WA G M_X2_showToken (ZM G M_X2_showToken d (fun r σ' => Sm 7 18 σ σ' ∧ True)) B_X2_showToken_106 [(0, .ref 7), (5, .long (gl σ 9 (v2).toNatClampNeg)), (7, .int l7)] [] s330 := by
                    intro n9_106
                    induction n9_106 using Nat.strongRecOn with
                    | _ n9_106 ih331 =>
                      intro l7 s330 i9 m9_106
                      obtain ⟨Fs330, -⟩ := i9
                      have ul7 := Int32.toInt_lt l7
                      have wl7 := Int32.le_toInt l7
                      refine wa_iload rfl ?_
                      refine wa_if_lt o_X2_showToken_140 (by decide) (fun h333 => ?_) (fun h333 => ?_)
                      · refine wa_return (st := []) rfl rfl ?_
                        exact ⟨Fs330, trivial⟩
                      · refine wa_lload rfl ?_
                        refine wa_iload rfl ?_
                        refine wa_lushr ?_
                        refine wa_topl (fun v334 hv334 => ?_)
                        clear hv334
                        refine wa_l2i ?_
                        refine wa_top (fun v335 hv335 => ?_)
                        clear hv335
                        refine wa_sipush (v := 255) (by decide) ?_
                        refine wa_iand ?_
                        refine wa_top (fun v336 hv336 => ?_)
                        have tv336 := i_andT hv336
                        clear hv336
                        refine wa_istoreD (lv' := [(8, .int v336), (0, .ref 7), (5, .long (gl σ 9 (v2).toNatClampNeg)), (7, .int l7)]) (by decide) rfl ?_
                        refine wa_iload rfl ?_
                        refine wa_if_eq o_X2_showToken_134 (by decide) (fun h337 => ?_) (fun h337 => ?_)
                        · refine wa_iinc (v := (-8)) (lv' := fun y338 => [(7, .int y338), (8, .int v336), (0, .ref 7), (5, .long (gl σ 9 (v2).toNatClampNeg))]) (by decide) rfl (by decide) (fun _ => rfl) (fun y338 hy338 => ?_)
                          have ty338 := i_addT hy338.symm
                          clear hy338
                          refine wa_goto o_X2_showToken_106 (by decide) ?_
                          refine wa_pick [2, 3, 0] rfl ?_
                          exact ih331 _ (by ((try simp only [vp_in_iff, Int32.lt_iff_toInt_lt, Int32.le_iff_toInt_le, ← Int32.toInt_inj, Int32.reduceToInt, n_1, n_2, n_8, Int32.toNatClampNeg, Int64.lt_iff_toInt_lt, Int64.le_iff_toInt_le, ← Int64.toInt_inj, Int64.reduceToInt, Int32.toInt_toInt64, lg_cmp_ge, lg_cmp_le, lg_cmp_gt, lg_cmp_lt, lg_cmp_eq, Bool.false_eq_true, Bool.true_eq_false, reduceCtorEq, false_iff, true_iff, iff_true, iff_false, and_true, true_and, and_false, false_and, reduceIte, ite_true, ite_false, eq_self] at *)) <;> omega) _ _ ⟨Fs330, trivial⟩ rfl
                        · refine wa_aload_n (i := 0) rfl rfl ?_
                          refine wa_iload rfl ?_
                          refine wa_Vv (d9 := d - 1) [.int _] [] (sp_X2_showByte G (d := d - 1) (by omega) s330 _) (rfl) rfl rfl (zr (by omega)) mk_X2_showByte ly_7 ml_2_116 (Nat.le_of_ble_eq_true rfl) (fun s339 hs339 => ?_)
                          obtain ⟨fs339, -⟩ := hs339
                          have Fs339 := Sm.tr Fs330 (Sm.wd fs339 (lo' := 7) (hi' := 18) (by decide) (by decide))
                          refine wa_iinc (v := (-8)) (lv' := fun y341 => [(7, .int y341), (8, .int v336), (0, .ref 7), (5, .long (gl σ 9 (v2).toNatClampNeg))]) (by decide) rfl (by decide) (fun _ => rfl) (fun y341 hy341 => ?_)
                          have ty341 := i_addT hy341.symm
                          clear hy341
                          refine wa_goto o_X2_showToken_106 (by decide) ?_
                          refine wa_pick [2, 3, 0] rfl ?_
                          exact ih331 _ (by ((try simp only [vp_in_iff, Int32.lt_iff_toInt_lt, Int32.le_iff_toInt_le, ← Int32.toInt_inj, Int32.reduceToInt, n_1, n_2, n_8, Int32.toNatClampNeg, Int64.lt_iff_toInt_lt, Int64.le_iff_toInt_le, ← Int64.toInt_inj, Int64.reduceToInt, Int32.toInt_toInt64, lg_cmp_ge, lg_cmp_le, lg_cmp_gt, lg_cmp_lt, lg_cmp_eq, Bool.false_eq_true, Bool.true_eq_false, reduceCtorEq, false_iff, true_iff, iff_true, iff_false, and_true, true_and, and_false, false_and, reduceIte, ite_true, ite_false, eq_self] at *)) <;> omega) _ _ ⟨Fs339, trivial⟩ rfl
                  exact hi332 _ _ _ ⟨Fs328, trivial⟩ rfl
        · have mh230 := nle_mx h230
          refine wa_aload_n (i := 0) rfl rfl ?_
          refine wa_getr ck_2 fl_2_9 ly_7 rf_7_0 ?_
          refine wa_iload rfl ?_
          refine wa_lald ly_8 (by ((try simp only [vp_in_iff, Int32.lt_iff_toInt_lt, Int32.le_iff_toInt_le, ← Int32.toInt_inj, Int32.reduceToInt, n_1, n_2, n_8, Int32.toNatClampNeg, Int64.lt_iff_toInt_lt, Int64.le_iff_toInt_le, ← Int64.toInt_inj, Int64.reduceToInt, Int32.toInt_toInt64, lg_cmp_ge, lg_cmp_le, lg_cmp_gt, lg_cmp_lt, lg_cmp_eq, Bool.false_eq_true, Bool.true_eq_false, reduceCtorEq, false_iff, true_iff, iff_true, iff_false, and_true, true_and, and_false, false_and, reduceIte, ite_true, ite_false, eq_self] at *)) <;> omega) ?_
          refine wa_lstoreD (lv' := [(5, .long (gl σ 8 (v2).toNatClampNeg)), (4, .int v2), (3, .int v1), (0, .ref 7), (1, .int a0), (2, .ref 18)]) (by decide) rfl ?_
          refine wa_goto o_X2_showToken_89 (by decide) ?_
          refine wa_aload_n (i := 0) rfl rfl ?_
          refine wa_geti ck_2 fl_2_71 ly_7 ?_
          refine wa_if_le o_X2_showToken_102 (by decide) (fun h342 => ?_) (fun h342 => ?_)
          · refine wa_bipush (v := 56) (by decide) ?_
            refine wa_istoreD (lv' := [(7, .int 56), (5, .long (gl σ 8 (v2).toNatClampNeg)), (4, .int v2), (3, .int v1), (0, .ref 7), (1, .int a0), (2, .ref 18)]) (by decide) rfl ?_
            refine wa_pick [4, 1, 0] rfl ?_
            have hi345 : ∀ (n9_106 : Nat) (l7 : Int32) (s343 : St), ((Sm 7 18 σ s343) ∧ (True)) → (l7.toInt + 8).toNat = n9_106 → WA G M_X2_showToken (ZM G M_X2_showToken d (fun r σ' => Sm 7 18 σ σ' ∧ True)) B_X2_showToken_106 [(0, .ref 7), (5, .long (gl σ 8 (v2).toNatClampNeg)), (7, .int l7)] [] s343 := by
              intro n9_106
              induction n9_106 using Nat.strongRecOn with
              | _ n9_106 ih344 =>
                intro l7 s343 i9 m9_106
                obtain ⟨Fs343, -⟩ := i9
                have ul7 := Int32.toInt_lt l7
                have wl7 := Int32.le_toInt l7
                refine wa_iload rfl ?_
                refine wa_if_lt o_X2_showToken_140 (by decide) (fun h346 => ?_) (fun h346 => ?_)
                · refine wa_return (st := []) rfl rfl ?_
                  exact ⟨Fs343, trivial⟩
                · refine wa_lload rfl ?_
                  refine wa_iload rfl ?_
                  refine wa_lushr ?_
                  refine wa_topl (fun v347 hv347 => ?_)
                  clear hv347
                  refine wa_l2i ?_
                  refine wa_top (fun v348 hv348 => ?_)
                  clear hv348
                  refine wa_sipush (v := 255) (by decide) ?_
                  refine wa_iand ?_
                  refine wa_top (fun v349 hv349 => ?_)
                  have tv349 := i_andT hv349
                  clear hv349
                  refine wa_istoreD (lv' := [(8, .int v349), (0, .ref 7), (5, .long (gl σ 8 (v2).toNatClampNeg)), (7, .int l7)]) (by decide) rfl ?_
                  refine wa_iload rfl ?_
                  refine wa_if_eq o_X2_showToken_134 (by decide) (fun h350 => ?_) (fun h350 => ?_)
                  · refine wa_iinc (v := (-8)) (lv' := fun y351 => [(7, .int y351), (8, .int v349), (0, .ref 7), (5, .long (gl σ 8 (v2).toNatClampNeg))]) (by decide) rfl (by decide) (fun _ => rfl) (fun y351 hy351 => ?_)
                    have ty351 := i_addT hy351.symm
                    clear hy351
                    refine wa_goto o_X2_showToken_106 (by decide) ?_
                    refine wa_pick [2, 3, 0] rfl ?_
                    exact ih344 _ (by ((try simp only [vp_in_iff, Int32.lt_iff_toInt_lt, Int32.le_iff_toInt_le, ← Int32.toInt_inj, Int32.reduceToInt, n_1, n_2, n_8, Int32.toNatClampNeg, Int64.lt_iff_toInt_lt, Int64.le_iff_toInt_le, ← Int64.toInt_inj, Int64.reduceToInt, Int32.toInt_toInt64, lg_cmp_ge, lg_cmp_le, lg_cmp_gt, lg_cmp_lt, lg_cmp_eq, Bool.false_eq_true, Bool.true_eq_false, reduceCtorEq, false_iff, true_iff, iff_true, iff_false, and_true, true_and, and_false, false_and, reduceIte, ite_true, ite_false, eq_self] at *)) <;> omega) _ _ ⟨Fs343, trivial⟩ rfl
                  · refine wa_aload_n (i := 0) rfl rfl ?_
                    refine wa_iload rfl ?_
                    refine wa_Vv (d9 := d - 1) [.int _] [] (sp_X2_showByte G (d := d - 1) (by omega) s343 _) (rfl) rfl rfl (zr (by omega)) mk_X2_showByte ly_7 ml_2_116 (Nat.le_of_ble_eq_true rfl) (fun s352 hs352 => ?_)
                    obtain ⟨fs352, -⟩ := hs352
                    have Fs352 := Sm.tr Fs343 (Sm.wd fs352 (lo' := 7) (hi' := 18) (by decide) (by decide))
                    refine wa_iinc (v := (-8)) (lv' := fun y354 => [(7, .int y354), (8, .int v349), (0, .ref 7), (5, .long (gl σ 8 (v2).toNatClampNeg))]) (by decide) rfl (by decide) (fun _ => rfl) (fun y354 hy354 => ?_)
                    have ty354 := i_addT hy354.symm
                    clear hy354
                    refine wa_goto o_X2_showToken_106 (by decide) ?_
                    refine wa_pick [2, 3, 0] rfl ?_
                    exact ih344 _ (by ((try simp only [vp_in_iff, Int32.lt_iff_toInt_lt, Int32.le_iff_toInt_le, ← Int32.toInt_inj, Int32.reduceToInt, n_1, n_2, n_8, Int32.toNatClampNeg, Int64.lt_iff_toInt_lt, Int64.le_iff_toInt_le, ← Int64.toInt_inj, Int64.reduceToInt, Int32.toInt_toInt64, lg_cmp_ge, lg_cmp_le, lg_cmp_gt, lg_cmp_lt, lg_cmp_eq, Bool.false_eq_true, Bool.true_eq_false, reduceCtorEq, false_iff, true_iff, iff_true, iff_false, and_true, true_and, and_false, false_and, reduceIte, ite_true, ite_false, eq_self] at *)) <;> omega) _ _ ⟨Fs352, trivial⟩ rfl
            exact hi345 _ _ _ ⟨(Sm.rf 7 18 σ), trivial⟩ rfl
          · refine wa_aload_n (i := 0) rfl rfl ?_
            refine wa_bipush (v := 32) (by decide) ?_
            refine wa_Vv (d9 := d - 1) [.int _] [] (sp_X2_showByte G (d := d - 1) (by omega) σ _) (rfl) rfl rfl (zr (by omega)) mk_X2_showByte ly_7 ml_2_116 (Nat.le_of_ble_eq_true rfl) (fun s355 hs355 => ?_)
            obtain ⟨fs355, -⟩ := hs355
            have Fs355 := Sm.tr (Sm.rf 7 18 σ) (Sm.wd fs355 (lo' := 7) (hi' := 18) (by decide) (by decide))
            refine wa_bipush (v := 56) (by decide) ?_
            refine wa_istoreD (lv' := [(7, .int 56), (5, .long (gl σ 8 (v2).toNatClampNeg)), (4, .int v2), (3, .int v1), (0, .ref 7), (1, .int a0), (2, .ref 18)]) (by decide) rfl ?_
            refine wa_pick [4, 1, 0] rfl ?_
            have hi359 : ∀ (n9_106 : Nat) (l7 : Int32) (s357 : St), ((Sm 7 18 σ s357) ∧ (True)) → (l7.toInt + 8).toNat = n9_106 → WA G M_X2_showToken (ZM G M_X2_showToken d (fun r σ' => Sm 7 18 σ σ' ∧ True)) B_X2_showToken_106 [(0, .ref 7), (5, .long (gl σ 8 (v2).toNatClampNeg)), (7, .int l7)] [] s357 := by
              intro n9_106
              induction n9_106 using Nat.strongRecOn with
              | _ n9_106 ih358 =>
                intro l7 s357 i9 m9_106
                obtain ⟨Fs357, -⟩ := i9
                have ul7 := Int32.toInt_lt l7
                have wl7 := Int32.le_toInt l7
                refine wa_iload rfl ?_
                refine wa_if_lt o_X2_showToken_140 (by decide) (fun h360 => ?_) (fun h360 => ?_)
                · refine wa_return (st := []) rfl rfl ?_
                  exact ⟨Fs357, trivial⟩
                · refine wa_lload rfl ?_
                  refine wa_iload rfl ?_
                  refine wa_lushr ?_
                  refine wa_topl (fun v361 hv361 => ?_)
                  clear hv361
                  refine wa_l2i ?_
                  refine wa_top (fun v362 hv362 => ?_)
                  clear hv362
                  refine wa_sipush (v := 255) (by decide) ?_
                  refine wa_iand ?_
                  refine wa_top (fun v363 hv363 => ?_)
                  have tv363 := i_andT hv363
                  clear hv363
                  refine wa_istoreD (lv' := [(8, .int v363), (0, .ref 7), (5, .long (gl σ 8 (v2).toNatClampNeg)), (7, .int l7)]) (by decide) rfl ?_
                  refine wa_iload rfl ?_
                  refine wa_if_eq o_X2_showToken_134 (by decide) (fun h364 => ?_) (fun h364 => ?_)
                  · refine wa_iinc (v := (-8)) (lv' := fun y365 => [(7, .int y365), (8, .int v363), (0, .ref 7), (5, .long (gl σ 8 (v2).toNatClampNeg))]) (by decide) rfl (by decide) (fun _ => rfl) (fun y365 hy365 => ?_)
                    have ty365 := i_addT hy365.symm
                    clear hy365
                    refine wa_goto o_X2_showToken_106 (by decide) ?_
                    refine wa_pick [2, 3, 0] rfl ?_
                    exact ih358 _ (by ((try simp only [vp_in_iff, Int32.lt_iff_toInt_lt, Int32.le_iff_toInt_le, ← Int32.toInt_inj, Int32.reduceToInt, n_1, n_2, n_8, Int32.toNatClampNeg, Int64.lt_iff_toInt_lt, Int64.le_iff_toInt_le, ← Int64.toInt_inj, Int64.reduceToInt, Int32.toInt_toInt64, lg_cmp_ge, lg_cmp_le, lg_cmp_gt, lg_cmp_lt, lg_cmp_eq, Bool.false_eq_true, Bool.true_eq_false, reduceCtorEq, false_iff, true_iff, iff_true, iff_false, and_true, true_and, and_false, false_and, reduceIte, ite_true, ite_false, eq_self] at *)) <;> omega) _ _ ⟨Fs357, trivial⟩ rfl
                  · refine wa_aload_n (i := 0) rfl rfl ?_
                    refine wa_iload rfl ?_
                    refine wa_Vv (d9 := d - 1) [.int _] [] (sp_X2_showByte G (d := d - 1) (by omega) s357 _) (rfl) rfl rfl (zr (by omega)) mk_X2_showByte ly_7 ml_2_116 (Nat.le_of_ble_eq_true rfl) (fun s366 hs366 => ?_)
                    obtain ⟨fs366, -⟩ := hs366
                    have Fs366 := Sm.tr Fs357 (Sm.wd fs366 (lo' := 7) (hi' := 18) (by decide) (by decide))
                    refine wa_iinc (v := (-8)) (lv' := fun y368 => [(7, .int y368), (8, .int v363), (0, .ref 7), (5, .long (gl σ 8 (v2).toNatClampNeg))]) (by decide) rfl (by decide) (fun _ => rfl) (fun y368 hy368 => ?_)
                    have ty368 := i_addT hy368.symm
                    clear hy368
                    refine wa_goto o_X2_showToken_106 (by decide) ?_
                    refine wa_pick [2, 3, 0] rfl ?_
                    exact ih358 _ (by ((try simp only [vp_in_iff, Int32.lt_iff_toInt_lt, Int32.le_iff_toInt_le, ← Int32.toInt_inj, Int32.reduceToInt, n_1, n_2, n_8, Int32.toNatClampNeg, Int64.lt_iff_toInt_lt, Int64.le_iff_toInt_le, ← Int64.toInt_inj, Int64.reduceToInt, Int32.toInt_toInt64, lg_cmp_ge, lg_cmp_le, lg_cmp_gt, lg_cmp_lt, lg_cmp_eq, Bool.false_eq_true, Bool.true_eq_false, reduceCtorEq, false_iff, true_iff, iff_true, iff_false, and_true, true_and, and_false, false_and, reduceIte, ite_true, ite_false, eq_self] at *)) <;> omega) _ _ ⟨Fs366, trivial⟩ rfl
            exact hi359 _ _ _ ⟨Fs355, trivial⟩ rfl
  · refine wa_iload rfl ?_
    refine wa_Sl (d9 := d - 1) [.int _] [] (sp_X3_spelledNumber G (d := d - 1) (by omega) σ _) (rfl) rfl rfl (zr (by omega)) mk_X3_spelledNumber ml_2_113 (Nat.le_of_ble_eq_true rfl) (fun x370 s369 hs369 => ?_)
    obtain ⟨zs369, -⟩ := pL hs369
    subst zs369
    refine wa_lstoreD (lv' := [(5, .long x370), (4, .int v2), (3, .int v1), (0, .ref 7), (1, .int a0), (2, .ref 18)]) (by decide) rfl ?_
    refine wa_goto o_X2_showToken_89 (by decide) ?_
    refine wa_aload_n (i := 0) rfl rfl ?_
    refine wa_geti ck_2 fl_2_71 ly_7 ?_
    refine wa_if_le o_X2_showToken_102 (by decide) (fun h371 => ?_) (fun h371 => ?_)
    · refine wa_bipush (v := 56) (by decide) ?_
      refine wa_istoreD (lv' := [(7, .int 56), (5, .long x370), (4, .int v2), (3, .int v1), (0, .ref 7), (1, .int a0), (2, .ref 18)]) (by decide) rfl ?_
      refine wa_pick [4, 1, 0] rfl ?_
      have hi374 : ∀ (n9_106 : Nat) (l7 : Int32) (s372 : St), ((Sm 7 18 σ s372) ∧ (True)) → (l7.toInt + 8).toNat = n9_106 → WA G M_X2_showToken (ZM G M_X2_showToken d (fun r σ' => Sm 7 18 σ σ' ∧ True)) B_X2_showToken_106 [(0, .ref 7), (5, .long x370), (7, .int l7)] [] s372 := by
        intro n9_106
        induction n9_106 using Nat.strongRecOn with
        | _ n9_106 ih373 =>
          intro l7 s372 i9 m9_106
          obtain ⟨Fs372, -⟩ := i9
          have ul7 := Int32.toInt_lt l7
          have wl7 := Int32.le_toInt l7
          refine wa_iload rfl ?_
          refine wa_if_lt o_X2_showToken_140 (by decide) (fun h375 => ?_) (fun h375 => ?_)
          · refine wa_return (st := []) rfl rfl ?_
            exact ⟨Fs372, trivial⟩
          · refine wa_lload rfl ?_
            refine wa_iload rfl ?_
            refine wa_lushr ?_
            refine wa_topl (fun v376 hv376 => ?_)
            clear hv376
            refine wa_l2i ?_
            refine wa_top (fun v377 hv377 => ?_)
            clear hv377
            refine wa_sipush (v := 255) (by decide) ?_
            refine wa_iand ?_
            refine wa_top (fun v378 hv378 => ?_)
            have tv378 := i_andT hv378
            clear hv378
            refine wa_istoreD (lv' := [(8, .int v378), (0, .ref 7), (5, .long x370), (7, .int l7)]) (by decide) rfl ?_
            refine wa_iload rfl ?_
            refine wa_if_eq o_X2_showToken_134 (by decide) (fun h379 => ?_) (fun h379 => ?_)
            · refine wa_iinc (v := (-8)) (lv' := fun y380 => [(7, .int y380), (8, .int v378), (0, .ref 7), (5, .long x370)]) (by decide) rfl (by decide) (fun _ => rfl) (fun y380 hy380 => ?_)
              have ty380 := i_addT hy380.symm
              clear hy380
              refine wa_goto o_X2_showToken_106 (by decide) ?_
              refine wa_pick [2, 3, 0] rfl ?_
              exact ih373 _ (by ((try simp only [vp_in_iff, Int32.lt_iff_toInt_lt, Int32.le_iff_toInt_le, ← Int32.toInt_inj, Int32.reduceToInt, n_1, n_2, n_8, Int32.toNatClampNeg, Int64.lt_iff_toInt_lt, Int64.le_iff_toInt_le, ← Int64.toInt_inj, Int64.reduceToInt, Int32.toInt_toInt64, lg_cmp_ge, lg_cmp_le, lg_cmp_gt, lg_cmp_lt, lg_cmp_eq, Bool.false_eq_true, Bool.true_eq_false, reduceCtorEq, false_iff, true_iff, iff_true, iff_false, and_true, true_and, and_false, false_and, reduceIte, ite_true, ite_false, eq_self] at *)) <;> omega) _ _ ⟨Fs372, trivial⟩ rfl
            · refine wa_aload_n (i := 0) rfl rfl ?_
              refine wa_iload rfl ?_
              refine wa_Vv (d9 := d - 1) [.int _] [] (sp_X2_showByte G (d := d - 1) (by omega) s372 _) (rfl) rfl rfl (zr (by omega)) mk_X2_showByte ly_7 ml_2_116 (Nat.le_of_ble_eq_true rfl) (fun s381 hs381 => ?_)
              obtain ⟨fs381, -⟩ := hs381
              have Fs381 := Sm.tr Fs372 (Sm.wd fs381 (lo' := 7) (hi' := 18) (by decide) (by decide))
              refine wa_iinc (v := (-8)) (lv' := fun y383 => [(7, .int y383), (8, .int v378), (0, .ref 7), (5, .long x370)]) (by decide) rfl (by decide) (fun _ => rfl) (fun y383 hy383 => ?_)
              have ty383 := i_addT hy383.symm
              clear hy383
              refine wa_goto o_X2_showToken_106 (by decide) ?_
              refine wa_pick [2, 3, 0] rfl ?_
              exact ih373 _ (by ((try simp only [vp_in_iff, Int32.lt_iff_toInt_lt, Int32.le_iff_toInt_le, ← Int32.toInt_inj, Int32.reduceToInt, n_1, n_2, n_8, Int32.toNatClampNeg, Int64.lt_iff_toInt_lt, Int64.le_iff_toInt_le, ← Int64.toInt_inj, Int64.reduceToInt, Int32.toInt_toInt64, lg_cmp_ge, lg_cmp_le, lg_cmp_gt, lg_cmp_lt, lg_cmp_eq, Bool.false_eq_true, Bool.true_eq_false, reduceCtorEq, false_iff, true_iff, iff_true, iff_false, and_true, true_and, and_false, false_and, reduceIte, ite_true, ite_false, eq_self] at *)) <;> omega) _ _ ⟨Fs381, trivial⟩ rfl
      exact hi374 _ _ _ ⟨(Sm.rf 7 18 σ), trivial⟩ rfl
    · refine wa_aload_n (i := 0) rfl rfl ?_
      refine wa_bipush (v := 32) (by decide) ?_
      refine wa_Vv (d9 := d - 1) [.int _] [] (sp_X2_showByte G (d := d - 1) (by omega) σ _) (rfl) rfl rfl (zr (by omega)) mk_X2_showByte ly_7 ml_2_116 (Nat.le_of_ble_eq_true rfl) (fun s384 hs384 => ?_)
      obtain ⟨fs384, -⟩ := hs384
      have Fs384 := Sm.tr (Sm.rf 7 18 σ) (Sm.wd fs384 (lo' := 7) (hi' := 18) (by decide) (by decide))
      refine wa_bipush (v := 56) (by decide) ?_
      refine wa_istoreD (lv' := [(7, .int 56), (5, .long x370), (4, .int v2), (3, .int v1), (0, .ref 7), (1, .int a0), (2, .ref 18)]) (by decide) rfl ?_
      refine wa_pick [4, 1, 0] rfl ?_
      have hi388 : ∀ (n9_106 : Nat) (l7 : Int32) (s386 : St), ((Sm 7 18 σ s386) ∧ (True)) → (l7.toInt + 8).toNat = n9_106 → WA G M_X2_showToken (ZM G M_X2_showToken d (fun r σ' => Sm 7 18 σ σ' ∧ True)) B_X2_showToken_106 [(0, .ref 7), (5, .long x370), (7, .int l7)] [] s386 := by
        intro n9_106
        induction n9_106 using Nat.strongRecOn with
        | _ n9_106 ih387 =>
          intro l7 s386 i9 m9_106
          obtain ⟨Fs386, -⟩ := i9
          have ul7 := Int32.toInt_lt l7
          have wl7 := Int32.le_toInt l7
          refine wa_iload rfl ?_
          refine wa_if_lt o_X2_showToken_140 (by decide) (fun h389 => ?_) (fun h389 => ?_)
          · refine wa_return (st := []) rfl rfl ?_
            exact ⟨Fs386, trivial⟩
          · refine wa_lload rfl ?_
            refine wa_iload rfl ?_
            refine wa_lushr ?_
            refine wa_topl (fun v390 hv390 => ?_)
            clear hv390
            refine wa_l2i ?_
            refine wa_top (fun v391 hv391 => ?_)
            clear hv391
            refine wa_sipush (v := 255) (by decide) ?_
            refine wa_iand ?_
            refine wa_top (fun v392 hv392 => ?_)
            have tv392 := i_andT hv392
            clear hv392
            refine wa_istoreD (lv' := [(8, .int v392), (0, .ref 7), (5, .long x370), (7, .int l7)]) (by decide) rfl ?_
            refine wa_iload rfl ?_
            refine wa_if_eq o_X2_showToken_134 (by decide) (fun h393 => ?_) (fun h393 => ?_)
            · refine wa_iinc (v := (-8)) (lv' := fun y394 => [(7, .int y394), (8, .int v392), (0, .ref 7), (5, .long x370)]) (by decide) rfl (by decide) (fun _ => rfl) (fun y394 hy394 => ?_)
              have ty394 := i_addT hy394.symm
              clear hy394
              refine wa_goto o_X2_showToken_106 (by decide) ?_
              refine wa_pick [2, 3, 0] rfl ?_
              exact ih387 _ (by ((try simp only [vp_in_iff, Int32.lt_iff_toInt_lt, Int32.le_iff_toInt_le, ← Int32.toInt_inj, Int32.reduceToInt, n_1, n_2, n_8, Int32.toNatClampNeg, Int64.lt_iff_toInt_lt, Int64.le_iff_toInt_le, ← Int64.toInt_inj, Int64.reduceToInt, Int32.toInt_toInt64, lg_cmp_ge, lg_cmp_le, lg_cmp_gt, lg_cmp_lt, lg_cmp_eq, Bool.false_eq_true, Bool.true_eq_false, reduceCtorEq, false_iff, true_iff, iff_true, iff_false, and_true, true_and, and_false, false_and, reduceIte, ite_true, ite_false, eq_self] at *)) <;> omega) _ _ ⟨Fs386, trivial⟩ rfl
            · refine wa_aload_n (i := 0) rfl rfl ?_
              refine wa_iload rfl ?_
              refine wa_Vv (d9 := d - 1) [.int _] [] (sp_X2_showByte G (d := d - 1) (by omega) s386 _) (rfl) rfl rfl (zr (by omega)) mk_X2_showByte ly_7 ml_2_116 (Nat.le_of_ble_eq_true rfl) (fun s395 hs395 => ?_)
              obtain ⟨fs395, -⟩ := hs395
              have Fs395 := Sm.tr Fs386 (Sm.wd fs395 (lo' := 7) (hi' := 18) (by decide) (by decide))
              refine wa_iinc (v := (-8)) (lv' := fun y397 => [(7, .int y397), (8, .int v392), (0, .ref 7), (5, .long x370)]) (by decide) rfl (by decide) (fun _ => rfl) (fun y397 hy397 => ?_)
              have ty397 := i_addT hy397.symm
              clear hy397
              refine wa_goto o_X2_showToken_106 (by decide) ?_
              refine wa_pick [2, 3, 0] rfl ?_
              exact ih387 _ (by ((try simp only [vp_in_iff, Int32.lt_iff_toInt_lt, Int32.le_iff_toInt_le, ← Int32.toInt_inj, Int32.reduceToInt, n_1, n_2, n_8, Int32.toNatClampNeg, Int64.lt_iff_toInt_lt, Int64.le_iff_toInt_le, ← Int64.toInt_inj, Int64.reduceToInt, Int32.toInt_toInt64, lg_cmp_ge, lg_cmp_le, lg_cmp_gt, lg_cmp_lt, lg_cmp_eq, Bool.false_eq_true, Bool.true_eq_false, reduceCtorEq, false_iff, true_iff, iff_true, iff_false, and_true, true_and, and_false, false_and, reduceIte, ite_true, ite_false, eq_self] at *)) <;> omega) _ _ ⟨Fs395, trivial⟩ rfl
      exact hi388 _ _ _ ⟨Fs384, trivial⟩ rfl
theorem pad_21c : True := trivial
