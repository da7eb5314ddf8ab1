set_option maxHeartbeats 4000000 in
theorem sp_X12_reckonSlots (G : kG9) {d : Nat} (hd : 3 ≤ d) (σ : St) (A_134 : AR ap_134 σ 134) (A_155 : AR ap_155 σ 155) (A_156 : AR ap_156 σ 156) (A_173 : AR ap_173 σ 173) (A_183 : AR ap_183 σ 183) (A_184 : AR ap_184 σ 184) (A_185 : AR ap_185 σ 185) (A_194 : AR ap_194 σ 194) (P_WKS : WKS σ) (P_CLI : CLI σ) (P_NOK : NOK σ) : Ct G M_X12_reckonSlots d [.ref 84] σ (fun r σ' => Fm [130, 131] [] σ σ' ∧ True) := by
  refine wa_start (by decide) rfl (Nat.le_of_ble_eq_true rfl) (lv := [(0, .ref 84)]) rfl o_X12_reckonSlots_0 rfl ?_
  refine wa_iconst (v := 0) (by decide) ?_
  refine wa_istore_nD (lv' := [(1, .int 0), (0, .ref 84)]) (i := 1) rfl (by decide) rfl ?_
  refine wa_pick [1, 0] rfl ?_
  have hi3 : ∀ (n9_2 : Nat) (l1 : Int32) (s1 : St), ((Fm [130, 131] [] σ s1) ∧ (0 ≤ l1.toInt) ∧ (True)) → (2147483647 - l1.toInt).toNat = n9_2 → WA G M_X12_reckonSlots (ZM G M_X12_reckonSlots d (fun r σ' => Fm [130, 131] [] σ σ' ∧ True)) B_X12_reckonSlots_2 [(0, .ref 84), (1, .int l1)] [] s1 := by
    intro n9_2
    induction n9_2 using Nat.strongRecOn with
    | _ n9_2 ih2 =>
      intro l1 s1 i9 m9_2
      obtain ⟨Fs1, jhi3_0, -⟩ := i9
      have ul1 := Int32.toInt_lt l1
      have wl1 := Int32.le_toInt l1
      refine wa_iload_n (i := 1) rfl rfl ?_
      refine wa_bipush (v := 24) (by decide) ?_
      refine wa_icmp_gt o_X12_reckonSlots_80 (by decide) (fun h4 => ?_) (fun h4 => ?_)
      · refine wa_return (st := []) rfl rfl ?_
        exact ⟨Fs1, trivial⟩
      · refine wa_aload_n (i := 0) rfl rfl ?_
        refine wa_getr ck_12 fl_12_304 ly_84 rf_84_121 ?_
        refine wa_iload_n (i := 1) rfl rfl ?_
        refine wa_zald ly_133 (by ((try simp only [vp_in_iff, Int32.lt_iff_toInt_lt, Int32.le_iff_toInt_le, ← Int32.toInt_inj, Int32.reduceToInt, n_1, n_2, n_8, Int32.toNatClampNeg, Int64.lt_iff_toInt_lt, Int64.le_iff_toInt_le, ← Int64.toInt_inj, Int64.reduceToInt, Int32.toInt_toInt64, lg_cmp_ge, lg_cmp_le, lg_cmp_gt, lg_cmp_lt, lg_cmp_eq, Bool.false_eq_true, Bool.true_eq_false, reduceCtorEq, false_iff, true_iff, iff_true, iff_false, and_true, true_and, and_false, false_and, reduceIte, ite_true, ite_false, eq_self] at *)) <;> omega) ?_
        refine wa_if_eq o_X12_reckonSlots_74 (by decide) (fun h5 => ?_) (fun h5 => ?_)
        · replace h5 := bI_f (b := (gb s1 133 (l1).toNatClampNeg)) (rfl) h5
          refine wa_iinc (v := (1)) (lv' := fun y6 => [(1, .int y6), (0, .ref 84)]) (by decide) rfl (by decide) (fun _ => rfl) (fun y6 hy6 => ?_)
          have ty6 := i_addT hy6.symm
          clear hy6
          refine wa_goto o_X12_reckonSlots_2 (by decide) ?_
          refine wa_pick [1, 0] rfl ?_
          exact ih2 _ (by ((try simp only [vp_in_iff, Int32.lt_iff_toInt_lt, Int32.le_iff_toInt_le, ← Int32.toInt_inj, Int32.reduceToInt, n_1, n_2, n_8, Int32.toNatClampNeg, Int64.lt_iff_toInt_lt, Int64.le_iff_toInt_le, ← Int64.toInt_inj, Int64.reduceToInt, Int32.toInt_toInt64, lg_cmp_ge, lg_cmp_le, lg_cmp_gt, lg_cmp_lt, lg_cmp_eq, Bool.false_eq_true, Bool.true_eq_false, reduceCtorEq, false_iff, true_iff, iff_true, iff_false, and_true, true_and, and_false, false_and, reduceIte, ite_true, ite_false, eq_self] at *)) <;> omega) _ _ ⟨Fs1, (by ((try simp only [vp_in_iff, Int32.lt_iff_toInt_lt, Int32.le_iff_toInt_le, ← Int32.toInt_inj, Int32.reduceToInt, n_1, n_2, n_8, Int32.toNatClampNeg, Int64.lt_iff_toInt_lt, Int64.le_iff_toInt_le, ← Int64.toInt_inj, Int64.reduceToInt, Int32.toInt_toInt64, lg_cmp_ge, lg_cmp_le, lg_cmp_gt, lg_cmp_lt, lg_cmp_eq, Bool.false_eq_true, Bool.true_eq_false, reduceCtorEq, false_iff, true_iff, iff_true, iff_false, and_true, true_and, and_false, false_and, reduceIte, ite_true, ite_false, eq_self] at *)) <;> omega), trivial⟩ rfl
        · replace h5 := bI_t (b := (gb s1 133 (l1).toNatClampNeg)) (rfl) h5
          have g17 : gb σ 133 (l1).toNatClampNeg = true := (Fm.gb Fs1 (q := 133) (k := (l1).toNatClampNeg) rfl rfl).symm.trans (by assumption)
          refine wa_sipush (v := 250) (by decide) ?_
          refine wa_iload_n (i := 1) rfl rfl ?_
          refine wa_imul ?_
          refine wa_top (fun v7 hv7 => ?_)
          have tv7 := i_mulT hv7
          clear hv7
          refine wa_istore_nD (lv' := [(2, .int v7), (0, .ref 84), (1, .int l1)]) (i := 2) rfl (by decide) rfl ?_
          refine wa_pick [1, 2, 0] rfl ?_
          have hi10 : ∀ (n9_23 : Nat) (l2 : Int32) (s8 : St), ((Fm [130, 131] [] σ s8) ∧ (250 * l1.toInt ≤ l2.toInt) ∧ (True)) → (2147483647 - l2.toInt).toNat = n9_23 → WA G M_X12_reckonSlots (ZM G M_X12_reckonSlots d (fun r σ' => Fm [130, 131] [] σ σ' ∧ True)) B_X12_reckonSlots_23 [(0, .ref 84), (1, .int l1), (2, .int l2)] [] s8 := by
            intro n9_23
            induction n9_23 using Nat.strongRecOn with
            | _ n9_23 ih9 =>
              intro l2 s8 i9 m9_23
              obtain ⟨Fs8, jhi10_0, -⟩ := i9
              have ul2 := Int32.toInt_lt l2
              have wl2 := Int32.le_toInt l2
              refine wa_iload_n (i := 2) rfl rfl ?_
              refine wa_sipush (v := 250) (by decide) ?_
              refine wa_iload_n (i := 1) rfl rfl ?_
              refine wa_imul ?_
              refine wa_top (fun v11 hv11 => ?_)
              have tv11 := i_mulT hv11
              clear hv11
              refine wa_aload_n (i := 0) rfl rfl ?_
              refine wa_getr ck_12 fl_12_120 ly_84 rf_84_45 ?_
              refine wa_iload_n (i := 1) rfl rfl ?_
              refine wa_iald ly_194 (by ((try simp only [vp_in_iff, Int32.lt_iff_toInt_lt, Int32.le_iff_toInt_le, ← Int32.toInt_inj, Int32.reduceToInt, n_1, n_2, n_8, Int32.toNatClampNeg, Int64.lt_iff_toInt_lt, Int64.le_iff_toInt_le, ← Int64.toInt_inj, Int64.reduceToInt, Int32.toInt_toInt64, lg_cmp_ge, lg_cmp_le, lg_cmp_gt, lg_cmp_lt, lg_cmp_eq, Bool.false_eq_true, Bool.true_eq_false, reduceCtorEq, false_iff, true_iff, iff_true, iff_false, and_true, true_and, and_false, false_and, reduceIte, ite_true, ite_false, eq_self] at *)) <;> omega) ?_
              refine wa_top (fun v12 hv12 => ?_)
              have rv12 : 0 ≤ v12.toInt ∧ v12.toInt ≤ 250 := by rw [← hv12]; exact ar_at (ar_fm Fs8 rfl rfl A_194) _
              have qv12 : gi σ 194 ((l1).toNatClampNeg) = v12 := (Fm.gi Fs8 (q := 194) (k := (l1).toNatClampNeg) rfl rfl).symm.trans hv12
              clear hv12
              refine wa_iadd ?_
              refine wa_top (fun v13 hv13 => ?_)
              have tv13 := i_addT hv13
              clear hv13
              refine wa_icmp_ge o_X12_reckonSlots_57 (by decide) (fun h14 => ?_) (fun h14 => ?_)
              · refine wa_aload_n (i := 0) rfl rfl ?_
                refine wa_getr ck_12 fl_12_310 ly_84 rf_84_123 ?_
                refine wa_iload_n (i := 1) rfl rfl ?_
                refine wa_aload_n (i := 0) rfl rfl ?_
                refine wa_getr ck_12 fl_12_313 ly_84 rf_84_124 ?_
                refine wa_aload_n (i := 0) rfl rfl ?_
                refine wa_getr ck_12 fl_12_184 ly_84 rf_84_68 ?_
                refine wa_iload_n (i := 1) rfl rfl ?_
                refine wa_iald ly_173 (by ((try simp only [vp_in_iff, Int32.lt_iff_toInt_lt, Int32.le_iff_toInt_le, ← Int32.toInt_inj, Int32.reduceToInt, n_1, n_2, n_8, Int32.toNatClampNeg, Int64.lt_iff_toInt_lt, Int64.le_iff_toInt_le, ← Int64.toInt_inj, Int64.reduceToInt, Int32.toInt_toInt64, lg_cmp_ge, lg_cmp_le, lg_cmp_gt, lg_cmp_lt, lg_cmp_eq, Bool.false_eq_true, Bool.true_eq_false, reduceCtorEq, false_iff, true_iff, iff_true, iff_false, and_true, true_and, and_false, false_and, reduceIte, ite_true, ite_false, eq_self] at *)) <;> omega) ?_
                refine wa_top (fun v15 hv15 => ?_)
                have rv15 : 0 ≤ v15.toInt ∧ v15.toInt ≤ 6499 := by rw [← hv15]; exact ar_at (ar_fm Fs8 rfl rfl A_173) _
                clear hv15
                refine wa_zald ly_130 (by ((try simp only [vp_in_iff, Int32.lt_iff_toInt_lt, Int32.le_iff_toInt_le, ← Int32.toInt_inj, Int32.reduceToInt, n_1, n_2, n_8, Int32.toNatClampNeg, Int64.lt_iff_toInt_lt, Int64.le_iff_toInt_le, ← Int64.toInt_inj, Int64.reduceToInt, Int32.toInt_toInt64, lg_cmp_ge, lg_cmp_le, lg_cmp_gt, lg_cmp_lt, lg_cmp_eq, Bool.false_eq_true, Bool.true_eq_false, reduceCtorEq, false_iff, true_iff, iff_true, iff_false, and_true, true_and, and_false, false_and, reduceIte, ite_true, ite_false, eq_self] at *)) <;> omega) ?_
                refine wa_zast (gb s8 130 (v15).toNatClampNeg) (rfl) ly_131 (by ((try simp only [vp_in_iff, Int32.lt_iff_toInt_lt, Int32.le_iff_toInt_le, ← Int32.toInt_inj, Int32.reduceToInt, n_1, n_2, n_8, Int32.toNatClampNeg, Int64.lt_iff_toInt_lt, Int64.le_iff_toInt_le, ← Int64.toInt_inj, Int64.reduceToInt, Int32.toInt_toInt64, lg_cmp_ge, lg_cmp_le, lg_cmp_gt, lg_cmp_lt, lg_cmp_eq, Bool.false_eq_true, Bool.true_eq_false, reduceCtorEq, false_iff, true_iff, iff_true, iff_false, and_true, true_and, and_false, false_and, reduceIte, ite_true, ite_false, eq_self] at *)) <;> omega) (fun s16 hs16 => ?_)
                have Fs16 : Fm [130, 131] [] σ s16 := by rw [hs16]; exact Fm.sb Fs8 rfl
                refine wa_iinc (v := (1)) (lv' := fun y17 => [(1, .int y17), (0, .ref 84), (2, .int l2)]) (by decide) rfl (by decide) (fun _ => rfl) (fun y17 hy17 => ?_)
                have ty17 := i_addT hy17.symm
                clear hy17
                refine wa_goto o_X12_reckonSlots_2 (by decide) ?_
                refine wa_pick [1, 0] rfl ?_
                exact ih2 _ (by ((try simp only [vp_in_iff, Int32.lt_iff_toInt_lt, Int32.le_iff_toInt_le, ← Int32.toInt_inj, Int32.reduceToInt, n_1, n_2, n_8, Int32.toNatClampNeg, Int64.lt_iff_toInt_lt, Int64.le_iff_toInt_le, ← Int64.toInt_inj, Int64.reduceToInt, Int32.toInt_toInt64, lg_cmp_ge, lg_cmp_le, lg_cmp_gt, lg_cmp_lt, lg_cmp_eq, Bool.false_eq_true, Bool.true_eq_false, reduceCtorEq, false_iff, true_iff, iff_true, iff_false, and_true, true_and, and_false, false_and, reduceIte, ite_true, ite_false, eq_self] at *)) <;> omega) _ _ ⟨Fs16, (by ((try simp only [vp_in_iff, Int32.lt_iff_toInt_lt, Int32.le_iff_toInt_le, ← Int32.toInt_inj, Int32.reduceToInt, n_1, n_2, n_8, Int32.toNatClampNeg, Int64.lt_iff_toInt_lt, Int64.le_iff_toInt_le, ← Int64.toInt_inj, Int64.reduceToInt, Int32.toInt_toInt64, lg_cmp_ge, lg_cmp_le, lg_cmp_gt, lg_cmp_lt, lg_cmp_eq, Bool.false_eq_true, Bool.true_eq_false, reduceCtorEq, false_iff, true_iff, iff_true, iff_false, and_true, true_and, and_false, false_and, reduceIte, ite_true, ite_false, eq_self] at *)) <;> omega), trivial⟩ rfl
              · have mh14 := nle_mx h14
                refine wa_aload_n (i := 0) rfl rfl ?_
                refine wa_getr ck_12 fl_12_313 ly_84 rf_84_124 ?_
                refine wa_iload_n (i := 2) rfl rfl ?_
                refine wa_aload_n (i := 0) rfl rfl ?_
                refine wa_iload_n (i := 1) rfl rfl ?_
                refine wa_iload_n (i := 2) rfl rfl ?_
                refine wa_Vi (d9 := d - 1) [.int _, .int _] [.int l2, .ref 130] (sp_X12_isNode G (d := d - 1) (by omega) s8 _ _ (by ((try simp only [vp_in_iff, Int32.lt_iff_toInt_lt, Int32.le_iff_toInt_le, ← Int32.toInt_inj, Int32.reduceToInt, n_1, n_2, n_8, Int32.toNatClampNeg, Int64.lt_iff_toInt_lt, Int64.le_iff_toInt_le, ← Int64.toInt_inj, Int64.reduceToInt, Int32.toInt_toInt64, lg_cmp_ge, lg_cmp_le, lg_cmp_gt, lg_cmp_lt, lg_cmp_eq, Bool.false_eq_true, Bool.true_eq_false, reduceCtorEq, false_iff, true_iff, iff_true, iff_false, and_true, true_and, and_false, false_and, reduceIte, ite_true, ite_false, eq_self] at *)) <;> omega) ((Fm.gb Fs8 (q := 133) (k := _) rfl rfl).trans g17) (by rw [Fm.gi Fs8 (q := 194) rfl rfl]; ((try simp only [vp_in_iff, Int32.lt_iff_toInt_lt, Int32.le_iff_toInt_le, ← Int32.toInt_inj, Int32.reduceToInt, n_1, n_2, n_8, Int32.toNatClampNeg, Int64.lt_iff_toInt_lt, Int64.le_iff_toInt_le, ← Int64.toInt_inj, Int64.reduceToInt, Int32.toInt_toInt64, lg_cmp_ge, lg_cmp_le, lg_cmp_gt, lg_cmp_lt, lg_cmp_eq, Bool.false_eq_true, Bool.true_eq_false, reduceCtorEq, false_iff, true_iff, iff_true, iff_false, and_true, true_and, and_false, false_and, reduceIte, ite_true, ite_false, eq_self] at *)) <;> omega) (ar_fm Fs8 rfl rfl A_134) (ar_fm Fs8 rfl rfl A_155) (ar_fm Fs8 rfl rfl A_156) (ar_fm Fs8 rfl rfl A_183) (ar_fm Fs8 rfl rfl A_184) (ar_fm Fs8 rfl rfl A_185) (ar_fm Fs8 rfl rfl A_194) (WKS_of (fun k => Fm.gb Fs8 (q := 133) (k := k) rfl rfl) (fun k => Fm.gi Fs8 (q := 156) (k := k) rfl rfl) (fun k => Fm.gi Fs8 (q := 134) (k := k) rfl rfl) P_WKS) (CLI_of (fun k => Fm.gi Fs8 (q := 183) (k := k) rfl rfl) (fun k => Fm.gi Fs8 (q := 185) (k := k) rfl rfl) (fun k => Fm.gi Fs8 (q := 184) (k := k) rfl rfl) (fun k => Fm.gi Fs8 (q := 155) (k := k) rfl rfl) (fun k => Fm.gi Fs8 (q := 156) (k := k) rfl rfl) P_CLI) (NOK_of (fun k => Fm.gi Fs8 (q := 194) (k := k) rfl rfl) (fun k => Fm.gi Fs8 (q := 195) (k := k) rfl rfl) (fun k => Fm.gi Fs8 (q := 196) (k := k) rfl rfl) (fun k => Fm.gi Fs8 (q := 197) (k := k) rfl rfl) (fun k => Fm.gi Fs8 (q := 198) (k := k) rfl rfl) (fun k => Fm.gi Fs8 (q := 183) (k := k) rfl rfl) P_NOK)) (rfl) rfl rfl (zr (by omega)) mk_X12_isNode ly_84 ml_12_946 (Nat.le_of_ble_eq_true rfl) (fun x19 s18 hs18 => ?_)
                obtain ⟨bx19, ex19, zs18, -⟩ := pB hs18
                subst ex19
                subst zs18
                refine wa_zast bx19 (rfl) ly_130 (by ((try simp only [vp_in_iff, Int32.lt_iff_toInt_lt, Int32.le_iff_toInt_le, ← Int32.toInt_inj, Int32.reduceToInt, n_1, n_2, n_8, Int32.toNatClampNeg, Int64.lt_iff_toInt_lt, Int64.le_iff_toInt_le, ← Int64.toInt_inj, Int64.reduceToInt, Int32.toInt_toInt64, lg_cmp_ge, lg_cmp_le, lg_cmp_gt, lg_cmp_lt, lg_cmp_eq, Bool.false_eq_true, Bool.true_eq_false, reduceCtorEq, false_iff, true_iff, iff_true, iff_false, and_true, true_and, and_false, false_and, reduceIte, ite_true, ite_false, eq_self] at *)) <;> omega) (fun s20 hs20 => ?_)
                have Fs20 : Fm [130, 131] [] σ s20 := by rw [hs20]; exact Fm.sb Fs8 rfl
                refine wa_iinc (v := (1)) (lv' := fun y21 => [(2, .int y21), (0, .ref 84), (1, .int l1)]) (by decide) rfl (by decide) (fun _ => rfl) (fun y21 hy21 => ?_)
                have ty21 := i_addT hy21.symm
                clear hy21
                refine wa_goto o_X12_reckonSlots_23 (by decide) ?_
                refine wa_pick [1, 2, 0] rfl ?_
                exact ih9 _ (by ((try simp only [vp_in_iff, Int32.lt_iff_toInt_lt, Int32.le_iff_toInt_le, ← Int32.toInt_inj, Int32.reduceToInt, n_1, n_2, n_8, Int32.toNatClampNeg, Int64.lt_iff_toInt_lt, Int64.le_iff_toInt_le, ← Int64.toInt_inj, Int64.reduceToInt, Int32.toInt_toInt64, lg_cmp_ge, lg_cmp_le, lg_cmp_gt, lg_cmp_lt, lg_cmp_eq, Bool.false_eq_true, Bool.true_eq_false, reduceCtorEq, false_iff, true_iff, iff_true, iff_false, and_true, true_and, and_false, false_and, reduceIte, ite_true, ite_false, eq_self] at *)) <;> omega) _ _ ⟨Fs20, (by ((try simp only [vp_in_iff, Int32.lt_iff_toInt_lt, Int32.le_iff_toInt_le, ← Int32.toInt_inj, Int32.reduceToInt, n_1, n_2, n_8, Int32.toNatClampNeg, Int64.lt_iff_toInt_lt, Int64.le_iff_toInt_le, ← Int64.toInt_inj, Int64.reduceToInt, Int32.toInt_toInt64, lg_cmp_ge, lg_cmp_le, lg_cmp_gt, lg_cmp_lt, lg_cmp_eq, Bool.false_eq_true, Bool.true_eq_false, reduceCtorEq, false_iff, true_iff, iff_true, iff_false, and_true, true_and, and_false, false_and, reduceIte, ite_true, ite_false, eq_self] at *)) <;> omega), trivial⟩ rfl
          exact hi10 _ _ _ ⟨Fs1, (by ((try simp only [vp_in_iff, Int32.lt_iff_toInt_lt, Int32.le_iff_toInt_le, ← Int32.toInt_inj, Int32.reduceToInt, n_1, n_2, n_8, Int32.toNatClampNeg, Int64.lt_iff_toInt_lt, Int64.le_iff_toInt_le, ← Int64.toInt_inj, Int64.reduceToInt, Int32.toInt_toInt64, lg_cmp_ge, lg_cmp_le, lg_cmp_gt, lg_cmp_lt, lg_cmp_eq, Bool.false_eq_true, Bool.true_eq_false, reduceCtorEq, false_iff, true_iff, iff_true, iff_false, and_true, true_and, and_false, false_and, reduceIte, ite_true, ite_false, eq_self] at *)) <;> omega), trivial⟩ rfl
  exact hi3 _ _ _ ⟨(Fm.rf [130, 131] [] σ), (by ((try simp only [vp_in_iff, Int32.lt_iff_toInt_lt, Int32.le_iff_toInt_le, ← Int32.toInt_inj, Int32.reduceToInt, n_1, n_2, n_8, Int32.toNatClampNeg, Int64.lt_iff_toInt_lt, Int64.le_iff_toInt_le, ← Int64.toInt_inj, Int64.reduceToInt, Int32.toInt_toInt64, lg_cmp_ge, lg_cmp_le, lg_cmp_gt, lg_cmp_lt, lg_cmp_eq, Bool.false_eq_true, Bool.true_eq_false, reduceCtorEq, false_iff, true_iff, iff_true, iff_false, and_true, true_and, and_false, false_and, reduceIte, ite_true, ite_false, eq_self] at *)) <;> omega), trivial⟩ rfl
set_option maxHeartbeats 4000000 in
theorem sp_X12_holds (G : kG9) {d : Nat} (hd : 4 ≤ d) (σ : St) (a0 : Int32) (a1 : Int64) (a2 : Int64) (a3 : Int64) (a4 : Int64) (r1 : 0 ≤ (gi σ 84 33).toInt ∧ (gi σ 84 33).toInt ≤ 24) (r2 : 0 ≤ (gi σ 84 119).toInt ∧ (gi σ 84 119).toInt ≤ 576) (r3 : 0 ≤ (gi σ 84 119).toInt ∧ (gi σ 84 119).toInt ≤ 700) (r4 : (gi σ 84 119).toInt ≤ 700) (r5 : 0 ≤ (gi σ 84 32).toInt ∧ (gi σ 84 32).toInt ≤ 4) (A_134 : AR ap_134 σ 134) (A_135 : AR ap_135 σ 135) (A_136 : AR ap_136 σ 136) (A_137 : AR ap_137 σ 137) (A_155 : AR ap_155 σ 155) (A_156 : AR ap_156 σ 156) (A_157 : AR ap_157 σ 157) (A_158 : AR ap_158 σ 158) (A_159 : AR ap_159 σ 159) (A_173 : AR ap_173 σ 173) (A_183 : AR ap_183 σ 183) (A_184 : AR ap_184 σ 184) (A_185 : AR ap_185 σ 185) (A_194 : AR ap_194 σ 194) (P_INW : INW σ) (P_AOK : AOK σ) (P_WOK : WOK σ) (P_NAT : NAT σ) (P_NOK : NOK σ) (P_WKS : WKS σ) (P_CLI : CLI σ) : Ct G M_X12_holds d [.ref 84, .int a0, .long a1, .long a2, .long a3, .long a4] σ (fun r σ' => ∃ x : Int32, r = some (.int x) ∧ Fm [130, 131, 132, 133, 134, 135, 136, 137] [0, 119] σ σ' ∧ AR ap_134 σ' 134 ∧ AR ap_135 σ' 135 ∧ AR ap_136 σ' 136 ∧ AR ap_137 σ' 137 ∧ INW σ' ∧ WOK σ' ∧ WKS σ' ∧ True) := by
  refine wa_start (by decide) rfl (Nat.le_of_ble_eq_true rfl) (lv := [(0, .ref 84), (1, .int a0), (2, .long a1), (4, .long a2), (6, .long a3), (8, .long a4)]) rfl o_X12_holds_0 rfl ?_
  have ua0 := Int32.toInt_lt a0
  have wa0 := Int32.le_toInt a0
  refine wa_aload_n (i := 0) rfl rfl ?_
  refine wa_Vi (d9 := d - 1) [] [] (sp_X12_asks G (d := d - 1) (by omega) σ ) (rfl) rfl rfl (zr (by omega)) mk_X12_asks ly_84 ml_12_871 (Nat.le_of_ble_eq_true rfl) (fun x2 s1 hs1 => ?_)
  obtain ⟨bx2, ex2, fs1, -⟩ := pB hs1
  subst ex2
  have Fs1 : Fm [130, 131, 132, 133, 134, 135, 136, 137] [0, 119] σ s1 := Fm.tr (Fm.rf [130, 131, 132, 133, 134, 135, 136, 137] [0, 119] σ) (Fm.wd fs1 rfl rfl)
  refine wa_if_ne o_X12_holds_10 (by decide) (fun h3 => ?_) (fun h3 => ?_)
  · replace h3 := bI_t (b := bx2) (rfl) h3
    refine wa_aload_n (i := 0) rfl rfl ?_
    refine wa_iload_n (i := 1) rfl rfl ?_
    refine wa_Vi (d9 := d - 1) [.int _] [] (sp_X12_isClaim G (d := d - 1) (by omega) s1 _ (by rw [Fm.gi fs1 (q := 84) (k := 33) rfl rfl]; first | assumption | exact Or.inl rfl | exact Or.inr rfl | (((try simp only [vp_in_iff, Int32.lt_iff_toInt_lt, Int32.le_iff_toInt_le, ← Int32.toInt_inj, Int32.reduceToInt, n_1, n_2, n_8, Int32.toNatClampNeg, Int64.lt_iff_toInt_lt, Int64.le_iff_toInt_le, ← Int64.toInt_inj, Int64.reduceToInt, Int32.toInt_toInt64, lg_cmp_ge, lg_cmp_le, lg_cmp_gt, lg_cmp_lt, lg_cmp_eq, Bool.false_eq_true, Bool.true_eq_false, reduceCtorEq, false_iff, true_iff, iff_true, iff_false, and_true, true_and, and_false, false_and, reduceIte, ite_true, ite_false, eq_self] at *)) <;> omega))) (rfl) rfl rfl (zr (by omega)) mk_X12_isClaim ly_84 ml_12_877 (Nat.le_of_ble_eq_true rfl) (fun x5 s4 hs4 => ?_)
    obtain ⟨bx5, ex5, zs4, cx5_1, -⟩ := pB hs4
    subst ex5
    rw [Fm.gi fs1 (q := 84) (k := 33) rfl rfl] at cx5_1
    subst zs4
    refine wa_if_ne o_X12_holds_21 (by decide) (fun h6 => ?_) (fun h6 => ?_)
    · replace h6 := bI_t (b := bx5) (rfl) h6
      have uh6_0 := iff_t cx5_1 h6
      refine wa_ldc2 (v := (1000000000000)) (allW_in (kT_14 _ (List.mem_of_getElem? (i := 58) rfl)) rfl) ?_
      refine wa_lstoreD (lv' := [(10, .long (1000000000000)), (0, .ref 84), (1, .int a0), (2, .long a1), (4, .long a2), (6, .long a3), (8, .long a4)]) (by decide) rfl ?_
      refine wa_iconst (v := 0) (by decide) ?_
      refine wa_istoreD (lv' := [(12, .int 0), (10, .long (1000000000000)), (0, .ref 84), (1, .int a0), (2, .long a1), (4, .long a2), (6, .long a3), (8, .long a4)]) (by decide) rfl ?_
      refine wa_pick [2, 3, 4, 5, 6, 7, 1, 0] rfl ?_
      have hi8 : ∀ (n9_29 : Nat) (l12 : Int32), ((0 ≤ l12.toInt) ∧ (True)) → (2147483647 - l12.toInt).toNat = n9_29 → WA G M_X12_holds (ZM G M_X12_holds d (fun r σ' => ∃ x : Int32, r = some (.int x) ∧ Fm [130, 131, 132, 133, 134, 135, 136, 137] [0, 119] σ σ' ∧ AR ap_134 σ' 134 ∧ AR ap_135 σ' 135 ∧ AR ap_136 σ' 136 ∧ AR ap_137 σ' 137 ∧ INW σ' ∧ WOK σ' ∧ WKS σ' ∧ True)) B_X12_holds_29 [(0, .ref 84), (1, .int a0), (2, .long a1), (4, .long a2), (6, .long a3), (8, .long a4), (10, .long (1000000000000)), (12, .int l12)] [] s1 := by
        intro n9_29
        induction n9_29 using Nat.strongRecOn with
        | _ n9_29 ih7 =>
          intro l12  i9 m9_29
          obtain ⟨jhi8_0, -⟩ := i9
          have ul12 := Int32.toInt_lt l12
          have wl12 := Int32.le_toInt l12
          refine wa_iload rfl ?_
          refine wa_aload_n (i := 0) rfl rfl ?_
          refine wa_geti ck_12 fl_12_815 ly_84 ?_
          refine wa_rw (Fm.gi fs1 (q := 84) (k := 32) rfl rfl) ?_
          refine wa_icmp_ge o_X12_holds_100 (by decide) (fun h9 => ?_) (fun h9 => ?_)
          · refine wa_aload_n (i := 0) rfl rfl ?_
            refine wa_Vv (d9 := d - 1) [] [] (sp_X12_idle G (d := d - 1) (by omega) s1 ) (rfl) rfl rfl (zr (by omega)) mk_X12_idle ly_84 ml_12_934 (Nat.le_of_ble_eq_true rfl) (fun s10 hs10 => ?_)
            obtain ⟨fs10, cx11_1, Ps10_INW, -⟩ := hs10
            have Fs10 : Fm [130, 131, 132, 133, 134, 135, 136, 137] [0, 119] σ s10 := Fm.tr Fs1 (Fm.wd fs10 rfl rfl)
            refine wa_aload_n (i := 0) rfl rfl ?_
            refine wa_iload_n (i := 1) rfl rfl ?_
            refine wa_Vv (d9 := d - 1) [.int _] [] (sp_X12_put G (d := d - 1) (by omega) s10 _ (by ((try simp only [vp_in_iff, Int32.lt_iff_toInt_lt, Int32.le_iff_toInt_le, ← Int32.toInt_inj, Int32.reduceToInt, n_1, n_2, n_8, Int32.toNatClampNeg, Int64.lt_iff_toInt_lt, Int64.le_iff_toInt_le, ← Int64.toInt_inj, Int64.reduceToInt, Int32.toInt_toInt64, lg_cmp_ge, lg_cmp_le, lg_cmp_gt, lg_cmp_lt, lg_cmp_eq, Bool.false_eq_true, Bool.true_eq_false, reduceCtorEq, false_iff, true_iff, iff_true, iff_false, and_true, true_and, and_false, false_and, reduceIte, ite_true, ite_false, eq_self] at *)) <;> omega) (by first | assumption | exact Or.inl rfl | exact Or.inr rfl | (((try simp only [vp_in_iff, Int32.lt_iff_toInt_lt, Int32.le_iff_toInt_le, ← Int32.toInt_inj, Int32.reduceToInt, n_1, n_2, n_8, Int32.toNatClampNeg, Int64.lt_iff_toInt_lt, Int64.le_iff_toInt_le, ← Int64.toInt_inj, Int64.reduceToInt, Int32.toInt_toInt64, lg_cmp_ge, lg_cmp_le, lg_cmp_gt, lg_cmp_lt, lg_cmp_eq, Bool.false_eq_true, Bool.true_eq_false, reduceCtorEq, false_iff, true_iff, iff_true, iff_false, and_true, true_and, and_false, false_and, reduceIte, ite_true, ite_false, eq_self] at *)) <;> omega)) (ar_fm fs10 rfl rfl (ar_fm fs1 rfl rfl A_135)) (ar_fm fs10 rfl rfl (ar_fm fs1 rfl rfl A_136)) (ar_fm fs10 rfl rfl (ar_fm fs1 rfl rfl A_137)) (ar_fm fs10 rfl rfl (ar_fm fs1 rfl rfl A_156)) (ar_fm fs10 rfl rfl (ar_fm fs1 rfl rfl A_157)) (ar_fm fs10 rfl rfl (ar_fm fs1 rfl rfl A_158)) (ar_fm fs10 rfl rfl (ar_fm fs1 rfl rfl A_159)) Ps10_INW (AOK_of (fun k => (Fm.gi fs10 (q := 157) (k := k) rfl rfl).trans (Fm.gi fs1 (q := 157) (k := k) rfl rfl)) (fun k => (Fm.gi fs10 (q := 158) (k := k) rfl rfl).trans (Fm.gi fs1 (q := 158) (k := k) rfl rfl)) P_AOK) (WOK_of (fun k => (Fm.gi fs10 (q := 135) (k := k) rfl rfl).trans (Fm.gi fs1 (q := 135) (k := k) rfl rfl)) (fun k => (Fm.gi fs10 (q := 136) (k := k) rfl rfl).trans (Fm.gi fs1 (q := 136) (k := k) rfl rfl)) P_WOK)) (rfl) rfl rfl (zr (by omega)) mk_X12_put ly_84 ml_12_937 (Nat.le_of_ble_eq_true rfl) (fun s12 hs12 => ?_)
            obtain ⟨fs12, cx13_1, cx13_2, As12_135, As12_136, As12_137, Ps12_INW, Ps12_WOK, -⟩ := hs12
            have Fs12 : Fm [130, 131, 132, 133, 134, 135, 136, 137] [0, 119] σ s12 := Fm.tr Fs10 (Fm.wd fs12 rfl rfl)
            refine wa_aload_n (i := 0) rfl rfl ?_
            refine wa_Vv (d9 := d - 1) [] [] (sp_X12_findWork G (d := d - 1) (by omega) s12  (by first | assumption | exact Or.inl rfl | exact Or.inr rfl | (((try simp only [vp_in_iff, Int32.lt_iff_toInt_lt, Int32.le_iff_toInt_le, ← Int32.toInt_inj, Int32.reduceToInt, n_1, n_2, n_8, Int32.toNatClampNeg, Int64.lt_iff_toInt_lt, Int64.le_iff_toInt_le, ← Int64.toInt_inj, Int64.reduceToInt, Int32.toInt_toInt64, lg_cmp_ge, lg_cmp_le, lg_cmp_gt, lg_cmp_lt, lg_cmp_eq, Bool.false_eq_true, Bool.true_eq_false, reduceCtorEq, false_iff, true_iff, iff_true, iff_false, and_true, true_and, and_false, false_and, reduceIte, ite_true, ite_false, eq_self] at *)) <;> omega)) (by first | assumption | exact Or.inl rfl | exact Or.inr rfl | (((try simp only [vp_in_iff, Int32.lt_iff_toInt_lt, Int32.le_iff_toInt_le, ← Int32.toInt_inj, Int32.reduceToInt, n_1, n_2, n_8, Int32.toNatClampNeg, Int64.lt_iff_toInt_lt, Int64.le_iff_toInt_le, ← Int64.toInt_inj, Int64.reduceToInt, Int32.toInt_toInt64, lg_cmp_ge, lg_cmp_le, lg_cmp_gt, lg_cmp_lt, lg_cmp_eq, Bool.false_eq_true, Bool.true_eq_false, reduceCtorEq, false_iff, true_iff, iff_true, iff_false, and_true, true_and, and_false, false_and, reduceIte, ite_true, ite_false, eq_self] at *)) <;> omega)) (ar_fm fs12 rfl rfl (ar_fm fs10 rfl rfl (ar_fm fs1 rfl rfl A_134))) As12_135 As12_136 As12_137 (ar_fm fs12 rfl rfl (ar_fm fs10 rfl rfl (ar_fm fs1 rfl rfl A_156))) (ar_fm fs12 rfl rfl (ar_fm fs10 rfl rfl (ar_fm fs1 rfl rfl A_157))) (ar_fm fs12 rfl rfl (ar_fm fs10 rfl rfl (ar_fm fs1 rfl rfl A_158))) (ar_fm fs12 rfl rfl (ar_fm fs10 rfl rfl (ar_fm fs1 rfl rfl A_159))) (ar_fm fs12 rfl rfl (ar_fm fs10 rfl rfl (ar_fm fs1 rfl rfl A_194))) Ps12_INW (NAT_of (fun k => (Fm.gi fs12 (q := 194) (k := k) rfl rfl).trans ((Fm.gi fs10 (q := 194) (k := k) rfl rfl).trans (Fm.gi fs1 (q := 194) (k := k) rfl rfl))) (fun k => (Fm.gi fs12 (q := 198) (k := k) rfl rfl).trans ((Fm.gi fs10 (q := 198) (k := k) rfl rfl).trans (Fm.gi fs1 (q := 198) (k := k) rfl rfl))) (fun k => (Fm.gi fs12 (q := 197) (k := k) rfl rfl).trans ((Fm.gi fs10 (q := 197) (k := k) rfl rfl).trans (Fm.gi fs1 (q := 197) (k := k) rfl rfl))) (fun k => (Fm.gi fs12 (q := 156) (k := k) rfl rfl).trans ((Fm.gi fs10 (q := 156) (k := k) rfl rfl).trans (Fm.gi fs1 (q := 156) (k := k) rfl rfl))) (fun k => (Fm.gi fs12 (q := 157) (k := k) rfl rfl).trans ((Fm.gi fs10 (q := 157) (k := k) rfl rfl).trans (Fm.gi fs1 (q := 157) (k := k) rfl rfl))) (fun k => (Fm.gi fs12 (q := 158) (k := k) rfl rfl).trans ((Fm.gi fs10 (q := 158) (k := k) rfl rfl).trans (Fm.gi fs1 (q := 158) (k := k) rfl rfl))) (fun k => (Fm.gi fs12 (q := 159) (k := k) rfl rfl).trans ((Fm.gi fs10 (q := 159) (k := k) rfl rfl).trans (Fm.gi fs1 (q := 159) (k := k) rfl rfl))) P_NAT) (NOK_of (fun k => (Fm.gi fs12 (q := 194) (k := k) rfl rfl).trans ((Fm.gi fs10 (q := 194) (k := k) rfl rfl).trans (Fm.gi fs1 (q := 194) (k := k) rfl rfl))) (fun k => (Fm.gi fs12 (q := 195) (k := k) rfl rfl).trans ((Fm.gi fs10 (q := 195) (k := k) rfl rfl).trans (Fm.gi fs1 (q := 195) (k := k) rfl rfl))) (fun k => (Fm.gi fs12 (q := 196) (k := k) rfl rfl).trans ((Fm.gi fs10 (q := 196) (k := k) rfl rfl).trans (Fm.gi fs1 (q := 196) (k := k) rfl rfl))) (fun k => (Fm.gi fs12 (q := 197) (k := k) rfl rfl).trans ((Fm.gi fs10 (q := 197) (k := k) rfl rfl).trans (Fm.gi fs1 (q := 197) (k := k) rfl rfl))) (fun k => (Fm.gi fs12 (q := 198) (k := k) rfl rfl).trans ((Fm.gi fs10 (q := 198) (k := k) rfl rfl).trans (Fm.gi fs1 (q := 198) (k := k) rfl rfl))) (fun k => (Fm.gi fs12 (q := 183) (k := k) rfl rfl).trans ((Fm.gi fs10 (q := 183) (k := k) rfl rfl).trans (Fm.gi fs1 (q := 183) (k := k) rfl rfl))) P_NOK)) (rfl) rfl rfl (zr (by omega)) mk_X12_findWork ly_84 ml_12_951 (Nat.le_of_ble_eq_true rfl) (fun s14 hs14 => ?_)
            obtain ⟨fs14, As14_134, Ps14_INW, Ps14_WKS, -⟩ := hs14
            have Fs14 : Fm [130, 131, 132, 133, 134, 135, 136, 137] [0, 119] σ s14 := Fm.tr Fs12 (Fm.wd fs14 rfl rfl)
            refine wa_iconst (v := 0) (by decide) ?_
            refine wa_istoreD (lv' := [(12, .int 0), (0, .ref 84), (1, .int a0), (2, .long a1), (4, .long a2), (6, .long a3), (8, .long a4), (10, .long (1000000000000))]) (by decide) rfl ?_
            refine wa_pick [1, 2, 3, 4, 5, 6, 0] rfl ?_
            have hi18 : ∀ (n9_116 : Nat) (l12 : Int32) (s16 : St), ((Fm [130, 131, 132, 133, 134, 135, 136, 137] [0, 119] σ s16) ∧ (gi s16 84 33 = gi σ 84 33) ∧ (gi s16 84 119 = gi s12 84 119) ∧ (gi s16 84 32 = gi σ 84 32) ∧ (AR ap_134 s16 134) ∧ (AR ap_135 s16 135) ∧ (AR ap_136 s16 136) ∧ (AR ap_137 s16 137) ∧ (INW s16) ∧ (WOK s16) ∧ (WKS s16) ∧ (0 ≤ l12.toInt) ∧ (True)) → (2147483647 - l12.toInt).toNat = n9_116 → WA G M_X12_holds (ZM G M_X12_holds d (fun r σ' => ∃ x : Int32, r = some (.int x) ∧ Fm [130, 131, 132, 133, 134, 135, 136, 137] [0, 119] σ σ' ∧ AR ap_134 σ' 134 ∧ AR ap_135 σ' 135 ∧ AR ap_136 σ' 136 ∧ AR ap_137 σ' 137 ∧ INW σ' ∧ WOK σ' ∧ WKS σ' ∧ True)) B_X12_holds_116 [(0, .ref 84), (1, .int a0), (2, .long a1), (4, .long a2), (6, .long a3), (8, .long a4), (12, .int l12)] [] s16 := by
              intro n9_116
              induction n9_116 using Nat.strongRecOn with
              | _ n9_116 ih17 =>
                intro l12 s16 i9 m9_116
                obtain ⟨Fs16, khi18_0, khi18_1, khi18_2, As16_134, As16_135, As16_136, As16_137, Ps16_INW, Ps16_WOK, Ps16_WKS, jhi18_0, -⟩ := i9
                have ul12 := Int32.toInt_lt l12
                have wl12 := Int32.le_toInt l12
                refine wa_iload rfl ?_
                refine wa_aload_n (i := 0) rfl rfl ?_
                refine wa_geti ck_12 fl_12_928 ly_84 ?_
                refine wa_rw (khi18_1) ?_
                refine wa_icmp_ge o_X12_holds_305 (by decide) (fun h19 => ?_) (fun h19 => ?_)
                · refine wa_aload_n (i := 0) rfl rfl ?_
                  refine wa_Vv (d9 := d - 1) [] [] (sp_X12_reckonSlots G (d := d - 1) (by omega) s16  As16_134 (ar_fm Fs16 rfl rfl A_155) (ar_fm Fs16 rfl rfl A_156) (ar_fm Fs16 rfl rfl A_173) (ar_fm Fs16 rfl rfl A_183) (ar_fm Fs16 rfl rfl A_184) (ar_fm Fs16 rfl rfl A_185) (ar_fm Fs16 rfl rfl A_194) Ps16_WKS (CLI_of (fun k => Fm.gi Fs16 (q := 183) (k := k) rfl rfl) (fun k => Fm.gi Fs16 (q := 185) (k := k) rfl rfl) (fun k => Fm.gi Fs16 (q := 184) (k := k) rfl rfl) (fun k => Fm.gi Fs16 (q := 155) (k := k) rfl rfl) (fun k => Fm.gi Fs16 (q := 156) (k := k) rfl rfl) P_CLI) (NOK_of (fun k => Fm.gi Fs16 (q := 194) (k := k) rfl rfl) (fun k => Fm.gi Fs16 (q := 195) (k := k) rfl rfl) (fun k => Fm.gi Fs16 (q := 196) (k := k) rfl rfl) (fun k => Fm.gi Fs16 (q := 197) (k := k) rfl rfl) (fun k => Fm.gi Fs16 (q := 198) (k := k) rfl rfl) (fun k => Fm.gi Fs16 (q := 183) (k := k) rfl rfl) P_NOK)) (rfl) rfl rfl (zr (by omega)) mk_X12_reckonSlots ly_84 ml_12_954 (Nat.le_of_ble_eq_true rfl) (fun s20 hs20 => ?_)
                  obtain ⟨fs20, -⟩ := hs20
                  have Fs20 : Fm [130, 131, 132, 133, 134, 135, 136, 137] [0, 119] σ s20 := Fm.tr Fs16 (Fm.wd fs20 rfl rfl)
                  refine wa_aload_n (i := 0) rfl rfl ?_
                  refine wa_getr ck_12 fl_12_310 ly_84 rf_84_123 ?_
                  refine wa_iload_n (i := 1) rfl rfl ?_
                  refine wa_zald ly_131 (by ((try simp only [vp_in_iff, Int32.lt_iff_toInt_lt, Int32.le_iff_toInt_le, ← Int32.toInt_inj, Int32.reduceToInt, n_1, n_2, n_8, Int32.toNatClampNeg, Int64.lt_iff_toInt_lt, Int64.le_iff_toInt_le, ← Int64.toInt_inj, Int64.reduceToInt, Int32.toInt_toInt64, lg_cmp_ge, lg_cmp_le, lg_cmp_gt, lg_cmp_lt, lg_cmp_eq, Bool.false_eq_true, Bool.true_eq_false, reduceCtorEq, false_iff, true_iff, iff_true, iff_false, and_true, true_and, and_false, false_and, reduceIte, ite_true, ite_false, eq_self] at *)) <;> omega) ?_
                  refine wa_if_eq o_X12_holds_322 (by decide) (fun h22 => ?_) (fun h22 => ?_)
                  · replace h22 := bI_f (b := (gb s20 131 (a0).toNatClampNeg)) (rfl) h22
                    refine wa_iconst (v := 0) (by decide) ?_
                    refine wa_ireturn rfl rfl ?_
                    exact ⟨_, rfl, Fs20, (ar_fm fs20 rfl rfl As16_134), (ar_fm fs20 rfl rfl As16_135), (ar_fm fs20 rfl rfl As16_136), (ar_fm fs20 rfl rfl As16_137), (INW_of (fun k => Fm.gb fs20 (q := 133) (k := k) rfl rfl) (fun k => Fm.gi fs20 (q := 156) (k := k) rfl rfl) (Fm.gi fs20 (q := 84) (k := 119) rfl rfl) (fun k => Fm.gi fs20 (q := 157) (k := k) rfl rfl) (fun k => Fm.gi fs20 (q := 158) (k := k) rfl rfl) (fun k => Fm.gi fs20 (q := 159) (k := k) rfl rfl) (fun k => Fm.gi fs20 (q := 135) (k := k) rfl rfl) (fun k => Fm.gi fs20 (q := 136) (k := k) rfl rfl) (fun k => Fm.gi fs20 (q := 137) (k := k) rfl rfl) Ps16_INW), (WOK_of (fun k => Fm.gi fs20 (q := 135) (k := k) rfl rfl) (fun k => Fm.gi fs20 (q := 136) (k := k) rfl rfl) Ps16_WOK), (WKS_of (fun k => Fm.gb fs20 (q := 133) (k := k) rfl rfl) (fun k => Fm.gi fs20 (q := 156) (k := k) rfl rfl) (fun k => Fm.gi fs20 (q := 134) (k := k) rfl rfl) Ps16_WKS), trivial⟩
                  · replace h22 := bI_t (b := (gb s20 131 (a0).toNatClampNeg)) (rfl) h22
                    refine wa_iconst (v := 1) (by decide) ?_
                    refine wa_goto o_X12_holds_323 (by decide) ?_
                    refine wa_ireturn rfl rfl ?_
                    exact ⟨_, rfl, Fs20, (ar_fm fs20 rfl rfl As16_134), (ar_fm fs20 rfl rfl As16_135), (ar_fm fs20 rfl rfl As16_136), (ar_fm fs20 rfl rfl As16_137), (INW_of (fun k => Fm.gb fs20 (q := 133) (k := k) rfl rfl) (fun k => Fm.gi fs20 (q := 156) (k := k) rfl rfl) (Fm.gi fs20 (q := 84) (k := 119) rfl rfl) (fun k => Fm.gi fs20 (q := 157) (k := k) rfl rfl) (fun k => Fm.gi fs20 (q := 158) (k := k) rfl rfl) (fun k => Fm.gi fs20 (q := 159) (k := k) rfl rfl) (fun k => Fm.gi fs20 (q := 135) (k := k) rfl rfl) (fun k => Fm.gi fs20 (q := 136) (k := k) rfl rfl) (fun k => Fm.gi fs20 (q := 137) (k := k) rfl rfl) Ps16_INW), (WOK_of (fun k => Fm.gi fs20 (q := 135) (k := k) rfl rfl) (fun k => Fm.gi fs20 (q := 136) (k := k) rfl rfl) Ps16_WOK), (WKS_of (fun k => Fm.gb fs20 (q := 133) (k := k) rfl rfl) (fun k => Fm.gi fs20 (q := 156) (k := k) rfl rfl) (fun k => Fm.gi fs20 (q := 134) (k := k) rfl rfl) Ps16_WKS), trivial⟩
                · have mh19 := nle_mx h19
                  refine wa_lconst (v := 0) (by decide) ?_
                  refine wa_lstoreD (lv' := [(13, .long 0), (0, .ref 84), (1, .int a0), (2, .long a1), (4, .long a2), (6, .long a3), (8, .long a4), (12, .int l12)]) (by decide) rfl ?_
                  refine wa_iconst (v := 0) (by decide) ?_
                  refine wa_istoreD (lv' := [(15, .int 0), (13, .long 0), (0, .ref 84), (1, .int a0), (2, .long a1), (4, .long a2), (6, .long a3), (8, .long a4), (12, .int l12)]) (by decide) rfl ?_
                  refine wa_pick [2, 3, 4, 5, 6, 7, 8, 1, 0] rfl ?_
                  have hi25 : ∀ (n9_131 : Nat) (l13 : Int64) (l15 : Int32) (s23 : St), ((Fm [130, 131, 132, 133, 134, 135, 136, 137] [0, 119] σ s23) ∧ (gi s23 84 33 = gi σ 84 33) ∧ (gi s23 84 119 = gi s12 84 119) ∧ (gi s23 84 32 = gi σ 84 32) ∧ (AR ap_134 s23 134) ∧ (AR ap_135 s23 135) ∧ (AR ap_136 s23 136) ∧ (AR ap_137 s23 137) ∧ (INW s23) ∧ (WOK s23) ∧ (WKS s23) ∧ (0 ≤ l15.toInt) ∧ (True)) → (2147483647 - l15.toInt).toNat = n9_131 → WA G M_X12_holds (ZM G M_X12_holds d (fun r σ' => ∃ x : Int32, r = some (.int x) ∧ Fm [130, 131, 132, 133, 134, 135, 136, 137] [0, 119] σ σ' ∧ AR ap_134 σ' 134 ∧ AR ap_135 σ' 135 ∧ AR ap_136 σ' 136 ∧ AR ap_137 σ' 137 ∧ INW σ' ∧ WOK σ' ∧ WKS σ' ∧ True)) B_X12_holds_131 [(0, .ref 84), (1, .int a0), (2, .long a1), (4, .long a2), (6, .long a3), (8, .long a4), (12, .int l12), (13, .long l13), (15, .int l15)] [] s23 := by
                    intro n9_131
                    induction n9_131 using Nat.strongRecOn with
                    | _ n9_131 ih24 =>
                      intro l13 l15 s23 i9 m9_131
                      obtain ⟨Fs23, khi25_0, khi25_1, khi25_2, As23_134, As23_135, As23_136, As23_137, Ps23_INW, Ps23_WOK, Ps23_WKS, jhi25_0, -⟩ := i9
                      have ul15 := Int32.toInt_lt l15
                      have wl15 := Int32.le_toInt l15
                      refine wa_iload rfl ?_
                      refine wa_aload_n (i := 0) rfl rfl ?_
                      refine wa_geti ck_12 fl_12_815 ly_84 ?_
                      refine wa_rw (khi25_2) ?_
                      refine wa_icmp_ge o_X12_holds_228 (by decide) (fun h26 => ?_) (fun h26 => ?_)
                      · refine wa_aload_n (i := 0) rfl rfl ?_
                        refine wa_getr ck_12 fl_12_307 ly_84 rf_84_122 ?_
                        refine wa_iload rfl ?_
                        refine wa_aload_n (i := 0) rfl rfl ?_
                        refine wa_getr ck_12 fl_12_298 ly_84 rf_84_118 ?_
                        refine wa_iload rfl ?_
                        refine wa_iald ly_135 (by ((try simp only [vp_in_iff, Int32.lt_iff_toInt_lt, Int32.le_iff_toInt_le, ← Int32.toInt_inj, Int32.reduceToInt, n_1, n_2, n_8, Int32.toNatClampNeg, Int64.lt_iff_toInt_lt, Int64.le_iff_toInt_le, ← Int64.toInt_inj, Int64.reduceToInt, Int32.toInt_toInt64, lg_cmp_ge, lg_cmp_le, lg_cmp_gt, lg_cmp_lt, lg_cmp_eq, Bool.false_eq_true, Bool.true_eq_false, reduceCtorEq, false_iff, true_iff, iff_true, iff_false, and_true, true_and, and_false, false_and, reduceIte, ite_true, ite_false, eq_self] at *)) <;> omega) ?_
                        refine wa_top (fun v27 hv27 => ?_)
                        have rv27 : 0 ≤ v27.toInt ∧ v27.toInt ≤ 12 := by rw [← hv27]; exact ar_at As23_135 _
                        have qv27 := hv27
                        clear hv27
                        refine wa_if_le o_X12_holds_279 (by decide) (fun h28 => ?_) (fun h28 => ?_)
                        · refine wa_lload rfl ?_
                          refine wa_aload_n (i := 0) rfl rfl ?_
                          refine wa_getr ck_12 fl_12_295 ly_84 rf_84_117 ?_
                          refine wa_iload rfl ?_
                          refine wa_iald ly_136 (by ((try simp only [vp_in_iff, Int32.lt_iff_toInt_lt, Int32.le_iff_toInt_le, ← Int32.toInt_inj, Int32.reduceToInt, n_1, n_2, n_8, Int32.toNatClampNeg, Int64.lt_iff_toInt_lt, Int64.le_iff_toInt_le, ← Int64.toInt_inj, Int64.reduceToInt, Int32.toInt_toInt64, lg_cmp_ge, lg_cmp_le, lg_cmp_gt, lg_cmp_lt, lg_cmp_eq, Bool.false_eq_true, Bool.true_eq_false, reduceCtorEq, false_iff, true_iff, iff_true, iff_false, and_true, true_and, and_false, false_and, reduceIte, ite_true, ite_false, eq_self] at *)) <;> omega) ?_
                          refine wa_top (fun v29 hv29 => ?_)
                          have rv29 : -99999 ≤ v29.toInt ∧ v29.toInt ≤ 99999 := by rw [← hv29]; exact ar_at As23_136 _
                          clear hv29
                          refine wa_i2l ?_
                          refine wa_lcmp ?_
                          refine wa_top (fun v30 hv30 => ?_)
                          have tv30 := i_cmpT hv30
                          clear hv30
                          refine wa_if_gt o_X12_holds_297 (by decide) (fun h31 => ?_) (fun h31 => ?_)
                          · refine wa_iconst (v := 0) (by decide) ?_
                            refine wa_zast false (rfl) ly_132 (by ((try simp only [vp_in_iff, Int32.lt_iff_toInt_lt, Int32.le_iff_toInt_le, ← Int32.toInt_inj, Int32.reduceToInt, n_1, n_2, n_8, Int32.toNatClampNeg, Int64.lt_iff_toInt_lt, Int64.le_iff_toInt_le, ← Int64.toInt_inj, Int64.reduceToInt, Int32.toInt_toInt64, lg_cmp_ge, lg_cmp_le, lg_cmp_gt, lg_cmp_lt, lg_cmp_eq, Bool.false_eq_true, Bool.true_eq_false, reduceCtorEq, false_iff, true_iff, iff_true, iff_false, and_true, true_and, and_false, false_and, reduceIte, ite_true, ite_false, eq_self] at *)) <;> omega) (fun s32 hs32 => ?_)
                            have Fs32 : Fm [130, 131, 132, 133, 134, 135, 136, 137] [0, 119] σ s32 := by rw [hs32]; exact Fm.sb Fs23 rfl
                            refine wa_iinc (v := (1)) (lv' := fun y33 => [(12, .int y33), (0, .ref 84), (1, .int a0), (2, .long a1), (4, .long a2), (6, .long a3), (8, .long a4), (13, .long l13), (15, .int l15)]) (by decide) rfl (by decide) (fun _ => rfl) (fun y33 hy33 => ?_)
                            have ty33 := i_addT hy33.symm
                            clear hy33
                            refine wa_goto o_X12_holds_116 (by decide) ?_
                            refine wa_pick [1, 2, 3, 4, 5, 6, 0] rfl ?_
                            exact ih17 _ (by ((try simp only [vp_in_iff, Int32.lt_iff_toInt_lt, Int32.le_iff_toInt_le, ← Int32.toInt_inj, Int32.reduceToInt, n_1, n_2, n_8, Int32.toNatClampNeg, Int64.lt_iff_toInt_lt, Int64.le_iff_toInt_le, ← Int64.toInt_inj, Int64.reduceToInt, Int32.toInt_toInt64, lg_cmp_ge, lg_cmp_le, lg_cmp_gt, lg_cmp_lt, lg_cmp_eq, Bool.false_eq_true, Bool.true_eq_false, reduceCtorEq, false_iff, true_iff, iff_true, iff_false, and_true, true_and, and_false, false_and, reduceIte, ite_true, ite_false, eq_self] at *)) <;> omega) _ _ ⟨Fs32, ((nx_gi_sb hs32).trans (khi25_0)), ((nx_gi_sb hs32).trans (khi25_1)), ((nx_gi_sb hs32).trans (khi25_2)), (ar_nb hs32 As23_134), (ar_nb hs32 As23_135), (ar_nb hs32 As23_136), (ar_nb hs32 As23_137), (INW_of (fun k => nxq_gb_sb hs32 (by decide)) (fun k => nx_gi_sb hs32) (nx_gi_sb hs32) (fun k => nx_gi_sb hs32) (fun k => nx_gi_sb hs32) (fun k => nx_gi_sb hs32) (fun k => nx_gi_sb hs32) (fun k => nx_gi_sb hs32) (fun k => nx_gi_sb hs32) Ps23_INW), (WOK_of (fun k => nx_gi_sb hs32) (fun k => nx_gi_sb hs32) Ps23_WOK), (WKS_of (fun k => nxq_gb_sb hs32 (by decide)) (fun k => nx_gi_sb hs32) (fun k => nx_gi_sb hs32) Ps23_WKS), (by ((try simp only [vp_in_iff, Int32.lt_iff_toInt_lt, Int32.le_iff_toInt_le, ← Int32.toInt_inj, Int32.reduceToInt, n_1, n_2, n_8, Int32.toNatClampNeg, Int64.lt_iff_toInt_lt, Int64.le_iff_toInt_le, ← Int64.toInt_inj, Int64.reduceToInt, Int32.toInt_toInt64, lg_cmp_ge, lg_cmp_le, lg_cmp_gt, lg_cmp_lt, lg_cmp_eq, Bool.false_eq_true, Bool.true_eq_false, reduceCtorEq, false_iff, true_iff, iff_true, iff_false, and_true, true_and, and_false, false_and, reduceIte, ite_true, ite_false, eq_self] at *)) <;> omega), trivial⟩ rfl
                          · refine wa_iconst (v := 1) (by decide) ?_
                            refine wa_goto o_X12_holds_298 (by decide) ?_
                            refine wa_zast true (rfl) ly_132 (by ((try simp only [vp_in_iff, Int32.lt_iff_toInt_lt, Int32.le_iff_toInt_le, ← Int32.toInt_inj, Int32.reduceToInt, n_1, n_2, n_8, Int32.toNatClampNeg, Int64.lt_iff_toInt_lt, Int64.le_iff_toInt_le, ← Int64.toInt_inj, Int64.reduceToInt, Int32.toInt_toInt64, lg_cmp_ge, lg_cmp_le, lg_cmp_gt, lg_cmp_lt, lg_cmp_eq, Bool.false_eq_true, Bool.true_eq_false, reduceCtorEq, false_iff, true_iff, iff_true, iff_false, and_true, true_and, and_false, false_and, reduceIte, ite_true, ite_false, eq_self] at *)) <;> omega) (fun s34 hs34 => ?_)
                            have Fs34 : Fm [130, 131, 132, 133, 134, 135, 136, 137] [0, 119] σ s34 := by rw [hs34]; exact Fm.sb Fs23 rfl
                            refine wa_iinc (v := (1)) (lv' := fun y35 => [(12, .int y35), (0, .ref 84), (1, .int a0), (2, .long a1), (4, .long a2), (6, .long a3), (8, .long a4), (13, .long l13), (15, .int l15)]) (by decide) rfl (by decide) (fun _ => rfl) (fun y35 hy35 => ?_)
                            have ty35 := i_addT hy35.symm
                            clear hy35
                            refine wa_goto o_X12_holds_116 (by decide) ?_
                            refine wa_pick [1, 2, 3, 4, 5, 6, 0] rfl ?_
                            exact ih17 _ (by ((try simp only [vp_in_iff, Int32.lt_iff_toInt_lt, Int32.le_iff_toInt_le, ← Int32.toInt_inj, Int32.reduceToInt, n_1, n_2, n_8, Int32.toNatClampNeg, Int64.lt_iff_toInt_lt, Int64.le_iff_toInt_le, ← Int64.toInt_inj, Int64.reduceToInt, Int32.toInt_toInt64, lg_cmp_ge, lg_cmp_le, lg_cmp_gt, lg_cmp_lt, lg_cmp_eq, Bool.false_eq_true, Bool.true_eq_false, reduceCtorEq, false_iff, true_iff, iff_true, iff_false, and_true, true_and, and_false, false_and, reduceIte, ite_true, ite_false, eq_self] at *)) <;> omega) _ _ ⟨Fs34, ((nx_gi_sb hs34).trans (khi25_0)), ((nx_gi_sb hs34).trans (khi25_1)), ((nx_gi_sb hs34).trans (khi25_2)), (ar_nb hs34 As23_134), (ar_nb hs34 As23_135), (ar_nb hs34 As23_136), (ar_nb hs34 As23_137), (INW_of (fun k => nxq_gb_sb hs34 (by decide)) (fun k => nx_gi_sb hs34) (nx_gi_sb hs34) (fun k => nx_gi_sb hs34) (fun k => nx_gi_sb hs34) (fun k => nx_gi_sb hs34) (fun k => nx_gi_sb hs34) (fun k => nx_gi_sb hs34) (fun k => nx_gi_sb hs34) Ps23_INW), (WOK_of (fun k => nx_gi_sb hs34) (fun k => nx_gi_sb hs34) Ps23_WOK), (WKS_of (fun k => nxq_gb_sb hs34 (by decide)) (fun k => nx_gi_sb hs34) (fun k => nx_gi_sb hs34) Ps23_WKS), (by ((try simp only [vp_in_iff, Int32.lt_iff_toInt_lt, Int32.le_iff_toInt_le, ← Int32.toInt_inj, Int32.reduceToInt, n_1, n_2, n_8, Int32.toNatClampNeg, Int64.lt_iff_toInt_lt, Int64.le_iff_toInt_le, ← Int64.toInt_inj, Int64.reduceToInt, Int32.toInt_toInt64, lg_cmp_ge, lg_cmp_le, lg_cmp_gt, lg_cmp_lt, lg_cmp_eq, Bool.false_eq_true, Bool.true_eq_false, reduceCtorEq, false_iff, true_iff, iff_true, iff_false, and_true, true_and, and_false, false_and, reduceIte, ite_true, ite_false, eq_self] at *)) <;> omega), trivial⟩ rfl
                        · refine wa_lload rfl ?_
                          refine wa_aload_n (i := 0) rfl rfl ?_
                          refine wa_getr ck_12 fl_12_295 ly_84 rf_84_117 ?_
                          refine wa_iload rfl ?_
                          refine wa_iald ly_136 (by ((try simp only [vp_in_iff, Int32.lt_iff_toInt_lt, Int32.le_iff_toInt_le, ← Int32.toInt_inj, Int32.reduceToInt, n_1, n_2, n_8, Int32.toNatClampNeg, Int64.lt_iff_toInt_lt, Int64.le_iff_toInt_le, ← Int64.toInt_inj, Int64.reduceToInt, Int32.toInt_toInt64, lg_cmp_ge, lg_cmp_le, lg_cmp_gt, lg_cmp_lt, lg_cmp_eq, Bool.false_eq_true, Bool.true_eq_false, reduceCtorEq, false_iff, true_iff, iff_true, iff_false, and_true, true_and, and_false, false_and, reduceIte, ite_true, ite_false, eq_self] at *)) <;> omega) ?_
                          refine wa_top (fun v36 hv36 => ?_)
                          have rv36 : -99999 ≤ v36.toInt ∧ v36.toInt ≤ 99999 := by rw [← hv36]; exact ar_at As23_136 _
                          clear hv36
                          refine wa_i2l ?_
                          refine wa_ladd ?_
                          refine wa_topl (fun v37 hv37 => ?_)
                          clear hv37
                          refine wa_aload_n (i := 0) rfl rfl ?_
                          refine wa_getr ck_12 fl_12_298 ly_84 rf_84_118 ?_
                          refine wa_iload rfl ?_
                          refine wa_iald ly_135 (by ((try simp only [vp_in_iff, Int32.lt_iff_toInt_lt, Int32.le_iff_toInt_le, ← Int32.toInt_inj, Int32.reduceToInt, n_1, n_2, n_8, Int32.toNatClampNeg, Int64.lt_iff_toInt_lt, Int64.le_iff_toInt_le, ← Int64.toInt_inj, Int64.reduceToInt, Int32.toInt_toInt64, lg_cmp_ge, lg_cmp_le, lg_cmp_gt, lg_cmp_lt, lg_cmp_eq, Bool.false_eq_true, Bool.true_eq_false, reduceCtorEq, false_iff, true_iff, iff_true, iff_false, and_true, true_and, and_false, false_and, reduceIte, ite_true, ite_false, eq_self] at *)) <;> omega) ?_
                          refine wa_top (fun v38 hv38 => ?_)
                          have rv38 : 0 ≤ v38.toInt ∧ v38.toInt ≤ 12 := by rw [← hv38]; exact ar_at As23_135 _
                          have qv38 := hv38
                          clear hv38
                          refine wa_i2l ?_
                          refine wa_Sl (d9 := d - 1) [.long _, .long _] [.int l12, .ref 132] (sp_X12_rest G (d := d - 1) (by omega) s23 _ _ (by ((try simp only [vp_in_iff, Int32.lt_iff_toInt_lt, Int32.le_iff_toInt_le, ← Int32.toInt_inj, Int32.reduceToInt, n_1, n_2, n_8, Int32.toNatClampNeg, Int64.lt_iff_toInt_lt, Int64.le_iff_toInt_le, ← Int64.toInt_inj, Int64.reduceToInt, Int32.toInt_toInt64, lg_cmp_ge, lg_cmp_le, lg_cmp_gt, lg_cmp_lt, lg_cmp_eq, Bool.false_eq_true, Bool.true_eq_false, reduceCtorEq, false_iff, true_iff, iff_true, iff_false, and_true, true_and, and_false, false_and, reduceIte, ite_true, ite_false, eq_self] at *)) <;> omega)) (rfl) rfl rfl (zr (by omega)) mk_X12_rest ml_12_768 (Nat.le_of_ble_eq_true rfl) (fun x40 s39 hs39 => ?_)
                          obtain ⟨zs39, -⟩ := pL hs39
                          subst zs39
                          refine wa_lconst (v := 0) (by decide) ?_
                          refine wa_lcmp ?_
                          refine wa_top (fun v41 hv41 => ?_)
                          have tv41 := i_cmpT hv41
                          clear hv41
                          refine wa_if_ne o_X12_holds_275 (by decide) (fun h42 => ?_) (fun h42 => ?_)
                          · refine wa_iconst (v := 0) (by decide) ?_
                            refine wa_goto o_X12_holds_298 (by decide) ?_
                            refine wa_zast false (rfl) ly_132 (by ((try simp only [vp_in_iff, Int32.lt_iff_toInt_lt, Int32.le_iff_toInt_le, ← Int32.toInt_inj, Int32.reduceToInt, n_1, n_2, n_8, Int32.toNatClampNeg, Int64.lt_iff_toInt_lt, Int64.le_iff_toInt_le, ← Int64.toInt_inj, Int64.reduceToInt, Int32.toInt_toInt64, lg_cmp_ge, lg_cmp_le, lg_cmp_gt, lg_cmp_lt, lg_cmp_eq, Bool.false_eq_true, Bool.true_eq_false, reduceCtorEq, false_iff, true_iff, iff_true, iff_false, and_true, true_and, and_false, false_and, reduceIte, ite_true, ite_false, eq_self] at *)) <;> omega) (fun s43 hs43 => ?_)
                            have Fs43 : Fm [130, 131, 132, 133, 134, 135, 136, 137] [0, 119] σ s43 := by rw [hs43]; exact Fm.sb Fs23 rfl
                            refine wa_iinc (v := (1)) (lv' := fun y44 => [(12, .int y44), (0, .ref 84), (1, .int a0), (2, .long a1), (4, .long a2), (6, .long a3), (8, .long a4), (13, .long l13), (15, .int l15)]) (by decide) rfl (by decide) (fun _ => rfl) (fun y44 hy44 => ?_)
                            have ty44 := i_addT hy44.symm
                            clear hy44
                            refine wa_goto o_X12_holds_116 (by decide) ?_
                            refine wa_pick [1, 2, 3, 4, 5, 6, 0] rfl ?_
                            exact ih17 _ (by ((try simp only [vp_in_iff, Int32.lt_iff_toInt_lt, Int32.le_iff_toInt_le, ← Int32.toInt_inj, Int32.reduceToInt, n_1, n_2, n_8, Int32.toNatClampNeg, Int64.lt_iff_toInt_lt, Int64.le_iff_toInt_le, ← Int64.toInt_inj, Int64.reduceToInt, Int32.toInt_toInt64, lg_cmp_ge, lg_cmp_le, lg_cmp_gt, lg_cmp_lt, lg_cmp_eq, Bool.false_eq_true, Bool.true_eq_false, reduceCtorEq, false_iff, true_iff, iff_true, iff_false, and_true, true_and, and_false, false_and, reduceIte, ite_true, ite_false, eq_self] at *)) <;> omega) _ _ ⟨Fs43, ((nx_gi_sb hs43).trans (khi25_0)), ((nx_gi_sb hs43).trans (khi25_1)), ((nx_gi_sb hs43).trans (khi25_2)), (ar_nb hs43 As23_134), (ar_nb hs43 As23_135), (ar_nb hs43 As23_136), (ar_nb hs43 As23_137), (INW_of (fun k => nxq_gb_sb hs43 (by decide)) (fun k => nx_gi_sb hs43) (nx_gi_sb hs43) (fun k => nx_gi_sb hs43) (fun k => nx_gi_sb hs43) (fun k => nx_gi_sb hs43) (fun k => nx_gi_sb hs43) (fun k => nx_gi_sb hs43) (fun k => nx_gi_sb hs43) Ps23_INW), (WOK_of (fun k => nx_gi_sb hs43) (fun k => nx_gi_sb hs43) Ps23_WOK), (WKS_of (fun k => nxq_gb_sb hs43 (by decide)) (fun k => nx_gi_sb hs43) (fun k => nx_gi_sb hs43) Ps23_WKS), (by ((try simp only [vp_in_iff, Int32.lt_iff_toInt_lt, Int32.le_iff_toInt_le, ← Int32.toInt_inj, Int32.reduceToInt, n_1, n_2, n_8, Int32.toNatClampNeg, Int64.lt_iff_toInt_lt, Int64.le_iff_toInt_le, ← Int64.toInt_inj, Int64.reduceToInt, Int32.toInt_toInt64, lg_cmp_ge, lg_cmp_le, lg_cmp_gt, lg_cmp_lt, lg_cmp_eq, Bool.false_eq_true, Bool.true_eq_false, reduceCtorEq, false_iff, true_iff, iff_true, iff_false, and_true, true_and, and_false, false_and, reduceIte, ite_true, ite_false, eq_self] at *)) <;> omega), trivial⟩ rfl
                          · refine wa_iconst (v := 1) (by decide) ?_
                            refine wa_goto o_X12_holds_298 (by decide) ?_
                            refine wa_zast true (rfl) ly_132 (by ((try simp only [vp_in_iff, Int32.lt_iff_toInt_lt, Int32.le_iff_toInt_le, ← Int32.toInt_inj, Int32.reduceToInt, n_1, n_2, n_8, Int32.toNatClampNeg, Int64.lt_iff_toInt_lt, Int64.le_iff_toInt_le, ← Int64.toInt_inj, Int64.reduceToInt, Int32.toInt_toInt64, lg_cmp_ge, lg_cmp_le, lg_cmp_gt, lg_cmp_lt, lg_cmp_eq, Bool.false_eq_true, Bool.true_eq_false, reduceCtorEq, false_iff, true_iff, iff_true, iff_false, and_true, true_and, and_false, false_and, reduceIte, ite_true, ite_false, eq_self] at *)) <;> omega) (fun s45 hs45 => ?_)
                            have Fs45 : Fm [130, 131, 132, 133, 134, 135, 136, 137] [0, 119] σ s45 := by rw [hs45]; exact Fm.sb Fs23 rfl
                            refine wa_iinc (v := (1)) (lv' := fun y46 => [(12, .int y46), (0, .ref 84), (1, .int a0), (2, .long a1), (4, .long a2), (6, .long a3), (8, .long a4), (13, .long l13), (15, .int l15)]) (by decide) rfl (by decide) (fun _ => rfl) (fun y46 hy46 => ?_)
                            have ty46 := i_addT hy46.symm
                            clear hy46
                            refine wa_goto o_X12_holds_116 (by decide) ?_
                            refine wa_pick [1, 2, 3, 4, 5, 6, 0] rfl ?_
                            exact ih17 _ (by ((try simp only [vp_in_iff, Int32.lt_iff_toInt_lt, Int32.le_iff_toInt_le, ← Int32.toInt_inj, Int32.reduceToInt, n_1, n_2, n_8, Int32.toNatClampNeg, Int64.lt_iff_toInt_lt, Int64.le_iff_toInt_le, ← Int64.toInt_inj, Int64.reduceToInt, Int32.toInt_toInt64, lg_cmp_ge, lg_cmp_le, lg_cmp_gt, lg_cmp_lt, lg_cmp_eq, Bool.false_eq_true, Bool.true_eq_false, reduceCtorEq, false_iff, true_iff, iff_true, iff_false, and_true, true_and, and_false, false_and, reduceIte, ite_true, ite_false, eq_self] at *)) <;> omega) _ _ ⟨Fs45, ((nx_gi_sb hs45).trans (khi25_0)), ((nx_gi_sb hs45).trans (khi25_1)), ((nx_gi_sb hs45).trans (khi25_2)), (ar_nb hs45 As23_134), (ar_nb hs45 As23_135), (ar_nb hs45 As23_136), (ar_nb hs45 As23_137), (INW_of (fun k => nxq_gb_sb hs45 (by decide)) (fun k => nx_gi_sb hs45) (nx_gi_sb hs45) (fun k => nx_gi_sb hs45) (fun k => nx_gi_sb hs45) (fun k => nx_gi_sb hs45) (fun k => nx_gi_sb hs45) (fun k => nx_gi_sb hs45) (fun k => nx_gi_sb hs45) Ps23_INW), (WOK_of (fun k => nx_gi_sb hs45) (fun k => nx_gi_sb hs45) Ps23_WOK), (WKS_of (fun k => nxq_gb_sb hs45 (by decide)) (fun k => nx_gi_sb hs45) (fun k => nx_gi_sb hs45) Ps23_WKS), (by ((try simp only [vp_in_iff, Int32.lt_iff_toInt_lt, Int32.le_iff_toInt_le, ← Int32.toInt_inj, Int32.reduceToInt, n_1, n_2, n_8, Int32.toNatClampNeg, Int64.lt_iff_toInt_lt, Int64.le_iff_toInt_le, ← Int64.toInt_inj, Int64.reduceToInt, Int32.toInt_toInt64, lg_cmp_ge, lg_cmp_le, lg_cmp_gt, lg_cmp_lt, lg_cmp_eq, Bool.false_eq_true, Bool.true_eq_false, reduceCtorEq, false_iff, true_iff, iff_true, iff_false, and_true, true_and, and_false, false_and, reduceIte, ite_true, ite_false, eq_self] at *)) <;> omega), trivial⟩ rfl
                      · have mh26 := nle_mx h26
                        refine wa_iload rfl ?_
                        refine wa_if_ne o_X12_holds_149 (by decide) (fun h47 => ?_) (fun h47 => ?_)
                        · refine wa_iload rfl ?_
                          refine wa_iconst (v := 1) (by decide) ?_
                          refine wa_icmp_ne o_X12_holds_160 (by decide) (fun h48 => ?_) (fun h48 => ?_)
                          · refine wa_iload rfl ?_
                            refine wa_iconst (v := 2) (by decide) ?_
                            refine wa_icmp_ne o_X12_holds_171 (by decide) (fun h49 => ?_) (fun h49 => ?_)
                            · refine wa_lload rfl ?_
                              refine wa_lstoreD (lv' := [(16, .long a4), (0, .ref 84), (1, .int a0), (2, .long a1), (4, .long a2), (6, .long a3), (8, .long a4), (12, .int l12), (13, .long l13), (15, .int l15)]) (by decide) rfl ?_
                              refine wa_lload rfl ?_
                              refine wa_aload_n (i := 0) rfl rfl ?_
                              refine wa_getr ck_12 fl_12_292 ly_84 rf_84_116 ?_
                              refine wa_iconst (v := 4) (by decide) ?_
                              refine wa_iload rfl ?_
                              refine wa_imul ?_
                              refine wa_top (fun v50 hv50 => ?_)
                              have tv50 := i_mulT hv50
                              clear hv50
                              refine wa_iload rfl ?_
                              refine wa_iadd ?_
                              refine wa_top (fun v51 hv51 => ?_)
                              have tv51 := i_addT hv51
                              clear hv51
                              refine wa_iald ly_137 (by ((try simp only [vp_in_iff, Int32.lt_iff_toInt_lt, Int32.le_iff_toInt_le, ← Int32.toInt_inj, Int32.reduceToInt, n_1, n_2, n_8, Int32.toNatClampNeg, Int64.lt_iff_toInt_lt, Int64.le_iff_toInt_le, ← Int64.toInt_inj, Int64.reduceToInt, Int32.toInt_toInt64, lg_cmp_ge, lg_cmp_le, lg_cmp_gt, lg_cmp_lt, lg_cmp_eq, Bool.false_eq_true, Bool.true_eq_false, reduceCtorEq, false_iff, true_iff, iff_true, iff_false, and_true, true_and, and_false, false_and, reduceIte, ite_true, ite_false, eq_self] at *)) <;> omega) ?_
                              refine wa_top (fun v52 hv52 => ?_)
                              have rv52 : -20 ≤ v52.toInt ∧ v52.toInt ≤ 20 := by rw [← hv52]; exact ar_at As23_137 _
                              clear hv52
                              refine wa_i2l ?_
                              refine wa_aload_n (i := 0) rfl rfl ?_
                              refine wa_getr ck_12 fl_12_298 ly_84 rf_84_118 ?_
                              refine wa_iload rfl ?_
                              refine wa_iald ly_135 (by ((try simp only [vp_in_iff, Int32.lt_iff_toInt_lt, Int32.le_iff_toInt_le, ← Int32.toInt_inj, Int32.reduceToInt, n_1, n_2, n_8, Int32.toNatClampNeg, Int64.lt_iff_toInt_lt, Int64.le_iff_toInt_le, ← Int64.toInt_inj, Int64.reduceToInt, Int32.toInt_toInt64, lg_cmp_ge, lg_cmp_le, lg_cmp_gt, lg_cmp_lt, lg_cmp_eq, Bool.false_eq_true, Bool.true_eq_false, reduceCtorEq, false_iff, true_iff, iff_true, iff_false, and_true, true_and, and_false, false_and, reduceIte, ite_true, ite_false, eq_self] at *)) <;> omega) ?_
                              refine wa_top (fun v53 hv53 => ?_)
                              have rv53 : 0 ≤ v53.toInt ∧ v53.toInt ≤ 12 := by rw [← hv53]; exact ar_at As23_135 _
                              have qv53 := hv53
                              clear hv53
                              refine wa_if_le o_X12_holds_216 (by decide) (fun h54 => ?_) (fun h54 => ?_)
                              · refine wa_lload rfl ?_
                                refine wa_lmul ?_
                                refine wa_topl (fun v55 hv55 => ?_)
                                clear hv55
                                refine wa_ladd ?_
                                refine wa_topl (fun v56 hv56 => ?_)
                                clear hv56
                                refine wa_lstoreD (lv' := [(13, .long v56), (16, .long a4), (0, .ref 84), (1, .int a0), (2, .long a1), (4, .long a2), (6, .long a3), (8, .long a4), (12, .int l12), (15, .int l15)]) (by decide) rfl ?_
                                refine wa_iinc (v := (1)) (lv' := fun y57 => [(15, .int y57), (13, .long v56), (16, .long a4), (0, .ref 84), (1, .int a0), (2, .long a1), (4, .long a2), (6, .long a3), (8, .long a4), (12, .int l12)]) (by decide) rfl (by decide) (fun _ => rfl) (fun y57 hy57 => ?_)
                                have ty57 := i_addT hy57.symm
                                clear hy57
                                refine wa_goto o_X12_holds_131 (by decide) ?_
                                refine wa_pick [3, 4, 5, 6, 7, 8, 9, 1, 0] rfl ?_
                                exact ih24 _ (by ((try simp only [vp_in_iff, Int32.lt_iff_toInt_lt, Int32.le_iff_toInt_le, ← Int32.toInt_inj, Int32.reduceToInt, n_1, n_2, n_8, Int32.toNatClampNeg, Int64.lt_iff_toInt_lt, Int64.le_iff_toInt_le, ← Int64.toInt_inj, Int64.reduceToInt, Int32.toInt_toInt64, lg_cmp_ge, lg_cmp_le, lg_cmp_gt, lg_cmp_lt, lg_cmp_eq, Bool.false_eq_true, Bool.true_eq_false, reduceCtorEq, false_iff, true_iff, iff_true, iff_false, and_true, true_and, and_false, false_and, reduceIte, ite_true, ite_false, eq_self] at *)) <;> omega) _ _ _ ⟨Fs23, (khi25_0), (khi25_1), (khi25_2), As23_134, As23_135, As23_136, As23_137, Ps23_INW, Ps23_WOK, Ps23_WKS, (by ((try simp only [vp_in_iff, Int32.lt_iff_toInt_lt, Int32.le_iff_toInt_le, ← Int32.toInt_inj, Int32.reduceToInt, n_1, n_2, n_8, Int32.toNatClampNeg, Int64.lt_iff_toInt_lt, Int64.le_iff_toInt_le, ← Int64.toInt_inj, Int64.reduceToInt, Int32.toInt_toInt64, lg_cmp_ge, lg_cmp_le, lg_cmp_gt, lg_cmp_lt, lg_cmp_eq, Bool.false_eq_true, Bool.true_eq_false, reduceCtorEq, false_iff, true_iff, iff_true, iff_false, and_true, true_and, and_false, false_and, reduceIte, ite_true, ite_false, eq_self] at *)) <;> omega), trivial⟩ rfl
                              · refine wa_lload rfl ?_
                                refine wa_aload_n (i := 0) rfl rfl ?_
                                refine wa_getr ck_12 fl_12_298 ly_84 rf_84_118 ?_
                                refine wa_iload rfl ?_
                                refine wa_iald ly_135 (by ((try simp only [vp_in_iff, Int32.lt_iff_toInt_lt, Int32.le_iff_toInt_le, ← Int32.toInt_inj, Int32.reduceToInt, n_1, n_2, n_8, Int32.toNatClampNeg, Int64.lt_iff_toInt_lt, Int64.le_iff_toInt_le, ← Int64.toInt_inj, Int64.reduceToInt, Int32.toInt_toInt64, lg_cmp_ge, lg_cmp_le, lg_cmp_gt, lg_cmp_lt, lg_cmp_eq, Bool.false_eq_true, Bool.true_eq_false, reduceCtorEq, false_iff, true_iff, iff_true, iff_false, and_true, true_and, and_false, false_and, reduceIte, ite_true, ite_false, eq_self] at *)) <;> omega) ?_
                                refine wa_top (fun v58 hv58 => ?_)
                                have rv58 : 0 ≤ v58.toInt ∧ v58.toInt ≤ 12 := by rw [← hv58]; exact ar_at As23_135 _
                                have qv58 := hv58
                                clear hv58
                                refine wa_i2l ?_
                                refine wa_Sl (d9 := d - 1) [.long _, .long _] [.long (Int32.toInt64 v52), .long l13] (sp_X12_rest G (d := d - 1) (by omega) s23 _ _ (by ((try simp only [vp_in_iff, Int32.lt_iff_toInt_lt, Int32.le_iff_toInt_le, ← Int32.toInt_inj, Int32.reduceToInt, n_1, n_2, n_8, Int32.toNatClampNeg, Int64.lt_iff_toInt_lt, Int64.le_iff_toInt_le, ← Int64.toInt_inj, Int64.reduceToInt, Int32.toInt_toInt64, lg_cmp_ge, lg_cmp_le, lg_cmp_gt, lg_cmp_lt, lg_cmp_eq, Bool.false_eq_true, Bool.true_eq_false, reduceCtorEq, false_iff, true_iff, iff_true, iff_false, and_true, true_and, and_false, false_and, reduceIte, ite_true, ite_false, eq_self] at *)) <;> omega)) (rfl) rfl rfl (zr (by omega)) mk_X12_rest ml_12_768 (Nat.le_of_ble_eq_true rfl) (fun x60 s59 hs59 => ?_)
                                obtain ⟨zs59, -⟩ := pL hs59
                                subst zs59
                                refine wa_goto o_X12_holds_218 (by decide) ?_
                                refine wa_lmul ?_
                                refine wa_topl (fun v61 hv61 => ?_)
                                clear hv61
                                refine wa_ladd ?_
                                refine wa_topl (fun v62 hv62 => ?_)
                                clear hv62
                                refine wa_lstoreD (lv' := [(13, .long v62), (16, .long a4), (0, .ref 84), (1, .int a0), (2, .long a1), (4, .long a2), (6, .long a3), (8, .long a4), (12, .int l12), (15, .int l15)]) (by decide) rfl ?_
                                refine wa_iinc (v := (1)) (lv' := fun y63 => [(15, .int y63), (13, .long v62), (16, .long a4), (0, .ref 84), (1, .int a0), (2, .long a1), (4, .long a2), (6, .long a3), (8, .long a4), (12, .int l12)]) (by decide) rfl (by decide) (fun _ => rfl) (fun y63 hy63 => ?_)
                                have ty63 := i_addT hy63.symm
                                clear hy63
                                refine wa_goto o_X12_holds_131 (by decide) ?_
                                refine wa_pick [3, 4, 5, 6, 7, 8, 9, 1, 0] rfl ?_
                                exact ih24 _ (by ((try simp only [vp_in_iff, Int32.lt_iff_toInt_lt, Int32.le_iff_toInt_le, ← Int32.toInt_inj, Int32.reduceToInt, n_1, n_2, n_8, Int32.toNatClampNeg, Int64.lt_iff_toInt_lt, Int64.le_iff_toInt_le, ← Int64.toInt_inj, Int64.reduceToInt, Int32.toInt_toInt64, lg_cmp_ge, lg_cmp_le, lg_cmp_gt, lg_cmp_lt, lg_cmp_eq, Bool.false_eq_true, Bool.true_eq_false, reduceCtorEq, false_iff, true_iff, iff_true, iff_false, and_true, true_and, and_false, false_and, reduceIte, ite_true, ite_false, eq_self] at *)) <;> omega) _ _ _ ⟨Fs23, (khi25_0), (khi25_1), (khi25_2), As23_134, As23_135, As23_136, As23_137, Ps23_INW, Ps23_WOK, Ps23_WKS, (by ((try simp only [vp_in_iff, Int32.lt_iff_toInt_lt, Int32.le_iff_toInt_le, ← Int32.toInt_inj, Int32.reduceToInt, n_1, n_2, n_8, Int32.toNatClampNeg, Int64.lt_iff_toInt_lt, Int64.le_iff_toInt_le, ← Int64.toInt_inj, Int64.reduceToInt, Int32.toInt_toInt64, lg_cmp_ge, lg_cmp_le, lg_cmp_gt, lg_cmp_lt, lg_cmp_eq, Bool.false_eq_true, Bool.true_eq_false, reduceCtorEq, false_iff, true_iff, iff_true, iff_false, and_true, true_and, and_false, false_and, reduceIte, ite_true, ite_false, eq_self] at *)) <;> omega), trivial⟩ rfl
                            · refine wa_lload rfl ?_
                              refine wa_goto o_X12_holds_173 (by decide) ?_
                              refine wa_lstoreD (lv' := [(16, .long a3), (0, .ref 84), (1, .int a0), (2, .long a1), (4, .long a2), (6, .long a3), (8, .long a4), (12, .int l12), (13, .long l13), (15, .int l15)]) (by decide) rfl ?_
                              refine wa_lload rfl ?_
                              refine wa_aload_n (i := 0) rfl rfl ?_
                              refine wa_getr ck_12 fl_12_292 ly_84 rf_84_116 ?_
                              refine wa_iconst (v := 4) (by decide) ?_
                              refine wa_iload rfl ?_
                              refine wa_imul ?_
                              refine wa_top (fun v64 hv64 => ?_)
                              have tv64 := i_mulT hv64
                              clear hv64
                              refine wa_iload rfl ?_
                              refine wa_iadd ?_
                              refine wa_top (fun v65 hv65 => ?_)
                              have tv65 := i_addT hv65
                              clear hv65
                              refine wa_iald ly_137 (by ((try simp only [vp_in_iff, Int32.lt_iff_toInt_lt, Int32.le_iff_toInt_le, ← Int32.toInt_inj, Int32.reduceToInt, n_1, n_2, n_8, Int32.toNatClampNeg, Int64.lt_iff_toInt_lt, Int64.le_iff_toInt_le, ← Int64.toInt_inj, Int64.reduceToInt, Int32.toInt_toInt64, lg_cmp_ge, lg_cmp_le, lg_cmp_gt, lg_cmp_lt, lg_cmp_eq, Bool.false_eq_true, Bool.true_eq_false, reduceCtorEq, false_iff, true_iff, iff_true, iff_false, and_true, true_and, and_false, false_and, reduceIte, ite_true, ite_false, eq_self] at *)) <;> omega) ?_
                              refine wa_top (fun v66 hv66 => ?_)
                              have rv66 : -20 ≤ v66.toInt ∧ v66.toInt ≤ 20 := by rw [← hv66]; exact ar_at As23_137 _
                              clear hv66
                              refine wa_i2l ?_
                              refine wa_aload_n (i := 0) rfl rfl ?_
                              refine wa_getr ck_12 fl_12_298 ly_84 rf_84_118 ?_
                              refine wa_iload rfl ?_
                              refine wa_iald ly_135 (by ((try simp only [vp_in_iff, Int32.lt_iff_toInt_lt, Int32.le_iff_toInt_le, ← Int32.toInt_inj, Int32.reduceToInt, n_1, n_2, n_8, Int32.toNatClampNeg, Int64.lt_iff_toInt_lt, Int64.le_iff_toInt_le, ← Int64.toInt_inj, Int64.reduceToInt, Int32.toInt_toInt64, lg_cmp_ge, lg_cmp_le, lg_cmp_gt, lg_cmp_lt, lg_cmp_eq, Bool.false_eq_true, Bool.true_eq_false, reduceCtorEq, false_iff, true_iff, iff_true, iff_false, and_true, true_and, and_false, false_and, reduceIte, ite_true, ite_false, eq_self] at *)) <;> omega) ?_
                              refine wa_top (fun v67 hv67 => ?_)
                              have rv67 : 0 ≤ v67.toInt ∧ v67.toInt ≤ 12 := by rw [← hv67]; exact ar_at As23_135 _
                              have qv67 := hv67
                              clear hv67
                              refine wa_if_le o_X12_holds_216 (by decide) (fun h68 => ?_) (fun h68 => ?_)
                              · refine wa_lload rfl ?_
                                refine wa_lmul ?_
                                refine wa_topl (fun v69 hv69 => ?_)
                                clear hv69
                                refine wa_ladd ?_
                                refine wa_topl (fun v70 hv70 => ?_)
                                clear hv70
                                refine wa_lstoreD (lv' := [(13, .long v70), (16, .long a3), (0, .ref 84), (1, .int a0), (2, .long a1), (4, .long a2), (6, .long a3), (8, .long a4), (12, .int l12), (15, .int l15)]) (by decide) rfl ?_
                                refine wa_iinc (v := (1)) (lv' := fun y71 => [(15, .int y71), (13, .long v70), (16, .long a3), (0, .ref 84), (1, .int a0), (2, .long a1), (4, .long a2), (6, .long a3), (8, .long a4), (12, .int l12)]) (by decide) rfl (by decide) (fun _ => rfl) (fun y71 hy71 => ?_)
                                have ty71 := i_addT hy71.symm
                                clear hy71
                                refine wa_goto o_X12_holds_131 (by decide) ?_
                                refine wa_pick [3, 4, 5, 6, 7, 8, 9, 1, 0] rfl ?_
                                exact ih24 _ (by ((try simp only [vp_in_iff, Int32.lt_iff_toInt_lt, Int32.le_iff_toInt_le, ← Int32.toInt_inj, Int32.reduceToInt, n_1, n_2, n_8, Int32.toNatClampNeg, Int64.lt_iff_toInt_lt, Int64.le_iff_toInt_le, ← Int64.toInt_inj, Int64.reduceToInt, Int32.toInt_toInt64, lg_cmp_ge, lg_cmp_le, lg_cmp_gt, lg_cmp_lt, lg_cmp_eq, Bool.false_eq_true, Bool.true_eq_false, reduceCtorEq, false_iff, true_iff, iff_true, iff_false, and_true, true_and, and_false, false_and, reduceIte, ite_true, ite_false, eq_self] at *)) <;> omega) _ _ _ ⟨Fs23, (khi25_0), (khi25_1), (khi25_2), As23_134, As23_135, As23_136, As23_137, Ps23_INW, Ps23_WOK, Ps23_WKS, (by ((try simp only [vp_in_iff, Int32.lt_iff_toInt_lt, Int32.le_iff_toInt_le, ← Int32.toInt_inj, Int32.reduceToInt, n_1, n_2, n_8, Int32.toNatClampNeg, Int64.lt_iff_toInt_lt, Int64.le_iff_toInt_le, ← Int64.toInt_inj, Int64.reduceToInt, Int32.toInt_toInt64, lg_cmp_ge, lg_cmp_le, lg_cmp_gt, lg_cmp_lt, lg_cmp_eq, Bool.false_eq_true, Bool.true_eq_false, reduceCtorEq, false_iff, true_iff, iff_true, iff_false, and_true, true_and, and_false, false_and, reduceIte, ite_true, ite_false, eq_self] at *)) <;> omega), trivial⟩ rfl
                              · refine wa_lload rfl ?_
                                refine wa_aload_n (i := 0) rfl rfl ?_
                                refine wa_getr ck_12 fl_12_298 ly_84 rf_84_118 ?_
                                refine wa_iload rfl ?_
                                refine wa_iald ly_135 (by ((try simp only [vp_in_iff, Int32.lt_iff_toInt_lt, Int32.le_iff_toInt_le, ← Int32.toInt_inj, Int32.reduceToInt, n_1, n_2, n_8, Int32.toNatClampNeg, Int64.lt_iff_toInt_lt, Int64.le_iff_toInt_le, ← Int64.toInt_inj, Int64.reduceToInt, Int32.toInt_toInt64, lg_cmp_ge, lg_cmp_le, lg_cmp_gt, lg_cmp_lt, lg_cmp_eq, Bool.false_eq_true, Bool.true_eq_false, reduceCtorEq, false_iff, true_iff, iff_true, iff_false, and_true, true_and, and_false, false_and, reduceIte, ite_true, ite_false, eq_self] at *)) <;> omega) ?_
                                refine wa_top (fun v72 hv72 => ?_)
                                have rv72 : 0 ≤ v72.toInt ∧ v72.toInt ≤ 12 := by rw [← hv72]; exact ar_at As23_135 _
                                have qv72 := hv72
                                clear hv72
                                refine wa_i2l ?_
                                refine wa_Sl (d9 := d - 1) [.long _, .long _] [.long (Int32.toInt64 v66), .long l13] (sp_X12_rest G (d := d - 1) (by omega) s23 _ _ (by ((try simp only [vp_in_iff, Int32.lt_iff_toInt_lt, Int32.le_iff_toInt_le, ← Int32.toInt_inj, Int32.reduceToInt, n_1, n_2, n_8, Int32.toNatClampNeg, Int64.lt_iff_toInt_lt, Int64.le_iff_toInt_le, ← Int64.toInt_inj, Int64.reduceToInt, Int32.toInt_toInt64, lg_cmp_ge, lg_cmp_le, lg_cmp_gt, lg_cmp_lt, lg_cmp_eq, Bool.false_eq_true, Bool.true_eq_false, reduceCtorEq, false_iff, true_iff, iff_true, iff_false, and_true, true_and, and_false, false_and, reduceIte, ite_true, ite_false, eq_self] at *)) <;> omega)) (rfl) rfl rfl (zr (by omega)) mk_X12_rest ml_12_768 (Nat.le_of_ble_eq_true rfl) (fun x74 s73 hs73 => ?_)
                                obtain ⟨zs73, -⟩ := pL hs73
                                subst zs73
                                refine wa_goto o_X12_holds_218 (by decide) ?_
                                refine wa_lmul ?_
                                refine wa_topl (fun v75 hv75 => ?_)
                                clear hv75
                                refine wa_ladd ?_
                                refine wa_topl (fun v76 hv76 => ?_)
                                clear hv76
                                refine wa_lstoreD (lv' := [(13, .long v76), (16, .long a3), (0, .ref 84), (1, .int a0), (2, .long a1), (4, .long a2), (6, .long a3), (8, .long a4), (12, .int l12), (15, .int l15)]) (by decide) rfl ?_
                                refine wa_iinc (v := (1)) (lv' := fun y77 => [(15, .int y77), (13, .long v76), (16, .long a3), (0, .ref 84), (1, .int a0), (2, .long a1), (4, .long a2), (6, .long a3), (8, .long a4), (12, .int l12)]) (by decide) rfl (by decide) (fun _ => rfl) (fun y77 hy77 => ?_)
                                have ty77 := i_addT hy77.symm
                                clear hy77
                                refine wa_goto o_X12_holds_131 (by decide) ?_
                                refine wa_pick [3, 4, 5, 6, 7, 8, 9, 1, 0] rfl ?_
                                exact ih24 _ (by ((try simp only [vp_in_iff, Int32.lt_iff_toInt_lt, Int32.le_iff_toInt_le, ← Int32.toInt_inj, Int32.reduceToInt, n_1, n_2, n_8, Int32.toNatClampNeg, Int64.lt_iff_toInt_lt, Int64.le_iff_toInt_le, ← Int64.toInt_inj, Int64.reduceToInt, Int32.toInt_toInt64, lg_cmp_ge, lg_cmp_le, lg_cmp_gt, lg_cmp_lt, lg_cmp_eq, Bool.false_eq_true, Bool.true_eq_false, reduceCtorEq, false_iff, true_iff, iff_true, iff_false, and_true, true_and, and_false, false_and, reduceIte, ite_true, ite_false, eq_self] at *)) <;> omega) _ _ _ ⟨Fs23, (khi25_0), (khi25_1), (khi25_2), As23_134, As23_135, As23_136, As23_137, Ps23_INW, Ps23_WOK, Ps23_WKS, (by ((try simp only [vp_in_iff, Int32.lt_iff_toInt_lt, Int32.le_iff_toInt_le, ← Int32.toInt_inj, Int32.reduceToInt, n_1, n_2, n_8, Int32.toNatClampNeg, Int64.lt_iff_toInt_lt, Int64.le_iff_toInt_le, ← Int64.toInt_inj, Int64.reduceToInt, Int32.toInt_toInt64, lg_cmp_ge, lg_cmp_le, lg_cmp_gt, lg_cmp_lt, lg_cmp_eq, Bool.false_eq_true, Bool.true_eq_false, reduceCtorEq, false_iff, true_iff, iff_true, iff_false, and_true, true_and, and_false, false_and, reduceIte, ite_true, ite_false, eq_self] at *)) <;> omega), trivial⟩ rfl
                          · refine wa_lload rfl ?_
                            refine wa_goto o_X12_holds_173 (by decide) ?_
                            refine wa_lstoreD (lv' := [(16, .long a2), (0, .ref 84), (1, .int a0), (2, .long a1), (4, .long a2), (6, .long a3), (8, .long a4), (12, .int l12), (13, .long l13), (15, .int l15)]) (by decide) rfl ?_
                            refine wa_lload rfl ?_
                            refine wa_aload_n (i := 0) rfl rfl ?_
                            refine wa_getr ck_12 fl_12_292 ly_84 rf_84_116 ?_
                            refine wa_iconst (v := 4) (by decide) ?_
                            refine wa_iload rfl ?_
                            refine wa_imul ?_
                            refine wa_top (fun v78 hv78 => ?_)
                            have tv78 := i_mulT hv78
                            clear hv78
                            refine wa_iload rfl ?_
                            refine wa_iadd ?_
                            refine wa_top (fun v79 hv79 => ?_)
                            have tv79 := i_addT hv79
                            clear hv79
                            refine wa_iald ly_137 (by ((try simp only [vp_in_iff, Int32.lt_iff_toInt_lt, Int32.le_iff_toInt_le, ← Int32.toInt_inj, Int32.reduceToInt, n_1, n_2, n_8, Int32.toNatClampNeg, Int64.lt_iff_toInt_lt, Int64.le_iff_toInt_le, ← Int64.toInt_inj, Int64.reduceToInt, Int32.toInt_toInt64, lg_cmp_ge, lg_cmp_le, lg_cmp_gt, lg_cmp_lt, lg_cmp_eq, Bool.false_eq_true, Bool.true_eq_false, reduceCtorEq, false_iff, true_iff, iff_true, iff_false, and_true, true_and, and_false, false_and, reduceIte, ite_true, ite_false, eq_self] at *)) <;> omega) ?_
                            refine wa_top (fun v80 hv80 => ?_)
                            have rv80 : -20 ≤ v80.toInt ∧ v80.toInt ≤ 20 := by rw [← hv80]; exact ar_at As23_137 _
                            clear hv80
                            refine wa_i2l ?_
                            refine wa_aload_n (i := 0) rfl rfl ?_
                            refine wa_getr ck_12 fl_12_298 ly_84 rf_84_118 ?_
                            refine wa_iload rfl ?_
                            refine wa_iald ly_135 (by ((try simp only [vp_in_iff, Int32.lt_iff_toInt_lt, Int32.le_iff_toInt_le, ← Int32.toInt_inj, Int32.reduceToInt, n_1, n_2, n_8, Int32.toNatClampNeg, Int64.lt_iff_toInt_lt, Int64.le_iff_toInt_le, ← Int64.toInt_inj, Int64.reduceToInt, Int32.toInt_toInt64, lg_cmp_ge, lg_cmp_le, lg_cmp_gt, lg_cmp_lt, lg_cmp_eq, Bool.false_eq_true, Bool.true_eq_false, reduceCtorEq, false_iff, true_iff, iff_true, iff_false, and_true, true_and, and_false, false_and, reduceIte, ite_true, ite_false, eq_self] at *)) <;> omega) ?_
                            refine wa_top (fun v81 hv81 => ?_)
                            have rv81 : 0 ≤ v81.toInt ∧ v81.toInt ≤ 12 := by rw [← hv81]; exact ar_at As23_135 _
                            have qv81 := hv81
                            clear hv81
                            refine wa_if_le o_X12_holds_216 (by decide) (fun h82 => ?_) (fun h82 => ?_)
                            · refine wa_lload rfl ?_
                              refine wa_lmul ?_
                              refine wa_topl (fun v83 hv83 => ?_)
                              clear hv83
                              refine wa_ladd ?_
                              refine wa_topl (fun v84 hv84 => ?_)
                              clear hv84
                              refine wa_lstoreD (lv' := [(13, .long v84), (16, .long a2), (0, .ref 84), (1, .int a0), (2, .long a1), (4, .long a2), (6, .long a3), (8, .long a4), (12, .int l12), (15, .int l15)]) (by decide) rfl ?_
                              refine wa_iinc (v := (1)) (lv' := fun y85 => [(15, .int y85), (13, .long v84), (16, .long a2), (0, .ref 84), (1, .int a0), (2, .long a1), (4, .long a2), (6, .long a3), (8, .long a4), (12, .int l12)]) (by decide) rfl (by decide) (fun _ => rfl) (fun y85 hy85 => ?_)
                              have ty85 := i_addT hy85.symm
                              clear hy85
                              refine wa_goto o_X12_holds_131 (by decide) ?_
                              refine wa_pick [3, 4, 5, 6, 7, 8, 9, 1, 0] rfl ?_
                              exact ih24 _ (by ((try simp only [vp_in_iff, Int32.lt_iff_toInt_lt, Int32.le_iff_toInt_le, ← Int32.toInt_inj, Int32.reduceToInt, n_1, n_2, n_8, Int32.toNatClampNeg, Int64.lt_iff_toInt_lt, Int64.le_iff_toInt_le, ← Int64.toInt_inj, Int64.reduceToInt, Int32.toInt_toInt64, lg_cmp_ge, lg_cmp_le, lg_cmp_gt, lg_cmp_lt, lg_cmp_eq, Bool.false_eq_true, Bool.true_eq_false, reduceCtorEq, false_iff, true_iff, iff_true, iff_false, and_true, true_and, and_false, false_and, reduceIte, ite_true, ite_false, eq_self] at *)) <;> omega) _ _ _ ⟨Fs23, (khi25_0), (khi25_1), (khi25_2), As23_134, As23_135, As23_136, As23_137, Ps23_INW, Ps23_WOK, Ps23_WKS, (by ((try simp only [vp_in_iff, Int32.lt_iff_toInt_lt, Int32.le_iff_toInt_le, ← Int32.toInt_inj, Int32.reduceToInt, n_1, n_2, n_8, Int32.toNatClampNeg, Int64.lt_iff_toInt_lt, Int64.le_iff_toInt_le, ← Int64.toInt_inj, Int64.reduceToInt, Int32.toInt_toInt64, lg_cmp_ge, lg_cmp_le, lg_cmp_gt, lg_cmp_lt, lg_cmp_eq, Bool.false_eq_true, Bool.true_eq_false, reduceCtorEq, false_iff, true_iff, iff_true, iff_false, and_true, true_and, and_false, false_and, reduceIte, ite_true, ite_false, eq_self] at *)) <;> omega), trivial⟩ rfl
                            · refine wa_lload rfl ?_
                              refine wa_aload_n (i := 0) rfl rfl ?_
                              refine wa_getr ck_12 fl_12_298 ly_84 rf_84_118 ?_
                              refine wa_iload rfl ?_
                              refine wa_iald ly_135 (by ((try simp only [vp_in_iff, Int32.lt_iff_toInt_lt, Int32.le_iff_toInt_le, ← Int32.toInt_inj, Int32.reduceToInt, n_1, n_2, n_8, Int32.toNatClampNeg, Int64.lt_iff_toInt_lt, Int64.le_iff_toInt_le, ← Int64.toInt_inj, Int64.reduceToInt, Int32.toInt_toInt64, lg_cmp_ge, lg_cmp_le, lg_cmp_gt, lg_cmp_lt, lg_cmp_eq, Bool.false_eq_true, Bool.true_eq_false, reduceCtorEq, false_iff, true_iff, iff_true, iff_false, and_true, true_and, and_false, false_and, reduceIte, ite_true, ite_false, eq_self] at *)) <;> omega) ?_
                              refine wa_top (fun v86 hv86 => ?_)
                              have rv86 : 0 ≤ v86.toInt ∧ v86.toInt ≤ 12 := by rw [← hv86]; exact ar_at As23_135 _
                              have qv86 := hv86
                              clear hv86
                              refine wa_i2l ?_
                              refine wa_Sl (d9 := d - 1) [.long _, .long _] [.long (Int32.toInt64 v80), .long l13] (sp_X12_rest G (d := d - 1) (by omega) s23 _ _ (by ((try simp only [vp_in_iff, Int32.lt_iff_toInt_lt, Int32.le_iff_toInt_le, ← Int32.toInt_inj, Int32.reduceToInt, n_1, n_2, n_8, Int32.toNatClampNeg, Int64.lt_iff_toInt_lt, Int64.le_iff_toInt_le, ← Int64.toInt_inj, Int64.reduceToInt, Int32.toInt_toInt64, lg_cmp_ge, lg_cmp_le, lg_cmp_gt, lg_cmp_lt, lg_cmp_eq, Bool.false_eq_true, Bool.true_eq_false, reduceCtorEq, false_iff, true_iff, iff_true, iff_false, and_true, true_and, and_false, false_and, reduceIte, ite_true, ite_false, eq_self] at *)) <;> omega)) (rfl) rfl rfl (zr (by omega)) mk_X12_rest ml_12_768 (Nat.le_of_ble_eq_true rfl) (fun x88 s87 hs87 => ?_)
                              obtain ⟨zs87, -⟩ := pL hs87
                              subst zs87
                              refine wa_goto o_X12_holds_218 (by decide) ?_
                              refine wa_lmul ?_
                              refine wa_topl (fun v89 hv89 => ?_)
                              clear hv89
                              refine wa_ladd ?_
                              refine wa_topl (fun v90 hv90 => ?_)
                              clear hv90
                              refine wa_lstoreD (lv' := [(13, .long v90), (16, .long a2), (0, .ref 84), (1, .int a0), (2, .long a1), (4, .long a2), (6, .long a3), (8, .long a4), (12, .int l12), (15, .int l15)]) (by decide) rfl ?_
                              refine wa_iinc (v := (1)) (lv' := fun y91 => [(15, .int y91), (13, .long v90), (16, .long a2), (0, .ref 84), (1, .int a0), (2, .long a1), (4, .long a2), (6, .long a3), (8, .long a4), (12, .int l12)]) (by decide) rfl (by decide) (fun _ => rfl) (fun y91 hy91 => ?_)
                              have ty91 := i_addT hy91.symm
                              clear hy91
                              refine wa_goto o_X12_holds_131 (by decide) ?_
                              refine wa_pick [3, 4, 5, 6, 7, 8, 9, 1, 0] rfl ?_
                              exact ih24 _ (by ((try simp only [vp_in_iff, Int32.lt_iff_toInt_lt, Int32.le_iff_toInt_le, ← Int32.toInt_inj, Int32.reduceToInt, n_1, n_2, n_8, Int32.toNatClampNeg, Int64.lt_iff_toInt_lt, Int64.le_iff_toInt_le, ← Int64.toInt_inj, Int64.reduceToInt, Int32.toInt_toInt64, lg_cmp_ge, lg_cmp_le, lg_cmp_gt, lg_cmp_lt, lg_cmp_eq, Bool.false_eq_true, Bool.true_eq_false, reduceCtorEq, false_iff, true_iff, iff_true, iff_false, and_true, true_and, and_false, false_and, reduceIte, ite_true, ite_false, eq_self] at *)) <;> omega) _ _ _ ⟨Fs23, (khi25_0), (khi25_1), (khi25_2), As23_134, As23_135, As23_136, As23_137, Ps23_INW, Ps23_WOK, Ps23_WKS, (by ((try simp only [vp_in_iff, Int32.lt_iff_toInt_lt, Int32.le_iff_toInt_le, ← Int32.toInt_inj, Int32.reduceToInt, n_1, n_2, n_8, Int32.toNatClampNeg, Int64.lt_iff_toInt_lt, Int64.le_iff_toInt_le, ← Int64.toInt_inj, Int64.reduceToInt, Int32.toInt_toInt64, lg_cmp_ge, lg_cmp_le, lg_cmp_gt, lg_cmp_lt, lg_cmp_eq, Bool.false_eq_true, Bool.true_eq_false, reduceCtorEq, false_iff, true_iff, iff_true, iff_false, and_true, true_and, and_false, false_and, reduceIte, ite_true, ite_false, eq_self] at *)) <;> omega), trivial⟩ rfl
                        · refine wa_lload_n (i := 2) rfl rfl ?_
                          refine wa_goto o_X12_holds_173 (by decide) ?_
                          refine wa_lstoreD (lv' := [(16, .long a1), (0, .ref 84), (1, .int a0), (2, .long a1), (4, .long a2), (6, .long a3), (8, .long a4), (12, .int l12), (13, .long l13), (15, .int l15)]) (by decide) rfl ?_
                          refine wa_lload rfl ?_
                          refine wa_aload_n (i := 0) rfl rfl ?_
                          refine wa_getr ck_12 fl_12_292 ly_84 rf_84_116 ?_
                          refine wa_iconst (v := 4) (by decide) ?_
                          refine wa_iload rfl ?_
                          refine wa_imul ?_
                          refine wa_top (fun v92 hv92 => ?_)
                          have tv92 := i_mulT hv92
                          clear hv92
                          refine wa_iload rfl ?_
                          refine wa_iadd ?_
                          refine wa_top (fun v93 hv93 => ?_)
                          have tv93 := i_addT hv93
                          clear hv93
                          refine wa_iald ly_137 (by ((try simp only [vp_in_iff, Int32.lt_iff_toInt_lt, Int32.le_iff_toInt_le, ← Int32.toInt_inj, Int32.reduceToInt, n_1, n_2, n_8, Int32.toNatClampNeg, Int64.lt_iff_toInt_lt, Int64.le_iff_toInt_le, ← Int64.toInt_inj, Int64.reduceToInt, Int32.toInt_toInt64, lg_cmp_ge, lg_cmp_le, lg_cmp_gt, lg_cmp_lt, lg_cmp_eq, Bool.false_eq_true, Bool.true_eq_false, reduceCtorEq, false_iff, true_iff, iff_true, iff_false, and_true, true_and, and_false, false_and, reduceIte, ite_true, ite_false, eq_self] at *)) <;> omega) ?_
                          refine wa_top (fun v94 hv94 => ?_)
                          have rv94 : -20 ≤ v94.toInt ∧ v94.toInt ≤ 20 := by rw [← hv94]; exact ar_at As23_137 _
                          clear hv94
                          refine wa_i2l ?_
                          refine wa_aload_n (i := 0) rfl rfl ?_
                          refine wa_getr ck_12 fl_12_298 ly_84 rf_84_118 ?_
                          refine wa_iload rfl ?_
                          refine wa_iald ly_135 (by ((try simp only [vp_in_iff, Int32.lt_iff_toInt_lt, Int32.le_iff_toInt_le, ← Int32.toInt_inj, Int32.reduceToInt, n_1, n_2, n_8, Int32.toNatClampNeg, Int64.lt_iff_toInt_lt, Int64.le_iff_toInt_le, ← Int64.toInt_inj, Int64.reduceToInt, Int32.toInt_toInt64, lg_cmp_ge, lg_cmp_le, lg_cmp_gt, lg_cmp_lt, lg_cmp_eq, Bool.false_eq_true, Bool.true_eq_false, reduceCtorEq, false_iff, true_iff, iff_true, iff_false, and_true, true_and, and_false, false_and, reduceIte, ite_true, ite_false, eq_self] at *)) <;> omega) ?_
                          refine wa_top (fun v95 hv95 => ?_)
                          have rv95 : 0 ≤ v95.toInt ∧ v95.toInt ≤ 12 := by rw [← hv95]; exact ar_at As23_135 _
                          have qv95 := hv95
                          clear hv95
                          refine wa_if_le o_X12_holds_216 (by decide) (fun h96 => ?_) (fun h96 => ?_)
                          · refine wa_lload rfl ?_
                            refine wa_lmul ?_
                            refine wa_topl (fun v97 hv97 => ?_)
                            clear hv97
                            refine wa_ladd ?_
                            refine wa_topl (fun v98 hv98 => ?_)
                            clear hv98
                            refine wa_lstoreD (lv' := [(13, .long v98), (16, .long a1), (0, .ref 84), (1, .int a0), (2, .long a1), (4, .long a2), (6, .long a3), (8, .long a4), (12, .int l12), (15, .int l15)]) (by decide) rfl ?_
                            refine wa_iinc (v := (1)) (lv' := fun y99 => [(15, .int y99), (13, .long v98), (16, .long a1), (0, .ref 84), (1, .int a0), (2, .long a1), (4, .long a2), (6, .long a3), (8, .long a4), (12, .int l12)]) (by decide) rfl (by decide) (fun _ => rfl) (fun y99 hy99 => ?_)
                            have ty99 := i_addT hy99.symm
                            clear hy99
                            refine wa_goto o_X12_holds_131 (by decide) ?_
                            refine wa_pick [3, 4, 5, 6, 7, 8, 9, 1, 0] rfl ?_
                            exact ih24 _ (by ((try simp only [vp_in_iff, Int32.lt_iff_toInt_lt, Int32.le_iff_toInt_le, ← Int32.toInt_inj, Int32.reduceToInt, n_1, n_2, n_8, Int32.toNatClampNeg, Int64.lt_iff_toInt_lt, Int64.le_iff_toInt_le, ← Int64.toInt_inj, Int64.reduceToInt, Int32.toInt_toInt64, lg_cmp_ge, lg_cmp_le, lg_cmp_gt, lg_cmp_lt, lg_cmp_eq, Bool.false_eq_true, Bool.true_eq_false, reduceCtorEq, false_iff, true_iff, iff_true, iff_false, and_true, true_and, and_false, false_and, reduceIte, ite_true, ite_false, eq_self] at *)) <;> omega) _ _ _ ⟨Fs23, (khi25_0), (khi25_1), (khi25_2), As23_134, As23_135, As23_136, As23_137, Ps23_INW, Ps23_WOK, Ps23_WKS, (by ((try simp only [vp_in_iff, Int32.lt_iff_toInt_lt, Int32.le_iff_toInt_le, ← Int32.toInt_inj, Int32.reduceToInt, n_1, n_2, n_8, Int32.toNatClampNeg, Int64.lt_iff_toInt_lt, Int64.le_iff_toInt_le, ← Int64.toInt_inj, Int64.reduceToInt, Int32.toInt_toInt64, lg_cmp_ge, lg_cmp_le, lg_cmp_gt, lg_cmp_lt, lg_cmp_eq, Bool.false_eq_true, Bool.true_eq_false, reduceCtorEq, false_iff, true_iff, iff_true, iff_false, and_true, true_and, and_false, false_and, reduceIte, ite_true, ite_false, eq_self] at *)) <;> omega), trivial⟩ rfl
                          · refine wa_lload rfl ?_
                            refine wa_aload_n (i := 0) rfl rfl ?_
                            refine wa_getr ck_12 fl_12_298 ly_84 rf_84_118 ?_
                            refine wa_iload rfl ?_
                            refine wa_iald ly_135 (by ((try simp only [vp_in_iff, Int32.lt_iff_toInt_lt, Int32.le_iff_toInt_le, ← Int32.toInt_inj, Int32.reduceToInt, n_1, n_2, n_8, Int32.toNatClampNeg, Int64.lt_iff_toInt_lt, Int64.le_iff_toInt_le, ← Int64.toInt_inj, Int64.reduceToInt, Int32.toInt_toInt64, lg_cmp_ge, lg_cmp_le, lg_cmp_gt, lg_cmp_lt, lg_cmp_eq, Bool.false_eq_true, Bool.true_eq_false, reduceCtorEq, false_iff, true_iff, iff_true, iff_false, and_true, true_and, and_false, false_and, reduceIte, ite_true, ite_false, eq_self] at *)) <;> omega) ?_
                            refine wa_top (fun v100 hv100 => ?_)
                            have rv100 : 0 ≤ v100.toInt ∧ v100.toInt ≤ 12 := by rw [← hv100]; exact ar_at As23_135 _
                            have qv100 := hv100
                            clear hv100
                            refine wa_i2l ?_
                            refine wa_Sl (d9 := d - 1) [.long _, .long _] [.long (Int32.toInt64 v94), .long l13] (sp_X12_rest G (d := d - 1) (by omega) s23 _ _ (by ((try simp only [vp_in_iff, Int32.lt_iff_toInt_lt, Int32.le_iff_toInt_le, ← Int32.toInt_inj, Int32.reduceToInt, n_1, n_2, n_8, Int32.toNatClampNeg, Int64.lt_iff_toInt_lt, Int64.le_iff_toInt_le, ← Int64.toInt_inj, Int64.reduceToInt, Int32.toInt_toInt64, lg_cmp_ge, lg_cmp_le, lg_cmp_gt, lg_cmp_lt, lg_cmp_eq, Bool.false_eq_true, Bool.true_eq_false, reduceCtorEq, false_iff, true_iff, iff_true, iff_false, and_true, true_and, and_false, false_and, reduceIte, ite_true, ite_false, eq_self] at *)) <;> omega)) (rfl) rfl rfl (zr (by omega)) mk_X12_rest ml_12_768 (Nat.le_of_ble_eq_true rfl) (fun x102 s101 hs101 => ?_)
                            obtain ⟨zs101, -⟩ := pL hs101
                            subst zs101
                            refine wa_goto o_X12_holds_218 (by decide) ?_
                            refine wa_lmul ?_
                            refine wa_topl (fun v103 hv103 => ?_)
                            clear hv103
                            refine wa_ladd ?_
                            refine wa_topl (fun v104 hv104 => ?_)
                            clear hv104
                            refine wa_lstoreD (lv' := [(13, .long v104), (16, .long a1), (0, .ref 84), (1, .int a0), (2, .long a1), (4, .long a2), (6, .long a3), (8, .long a4), (12, .int l12), (15, .int l15)]) (by decide) rfl ?_
                            refine wa_iinc (v := (1)) (lv' := fun y105 => [(15, .int y105), (13, .long v104), (16, .long a1), (0, .ref 84), (1, .int a0), (2, .long a1), (4, .long a2), (6, .long a3), (8, .long a4), (12, .int l12)]) (by decide) rfl (by decide) (fun _ => rfl) (fun y105 hy105 => ?_)
                            have ty105 := i_addT hy105.symm
                            clear hy105
                            refine wa_goto o_X12_holds_131 (by decide) ?_
                            refine wa_pick [3, 4, 5, 6, 7, 8, 9, 1, 0] rfl ?_
                            exact ih24 _ (by ((try simp only [vp_in_iff, Int32.lt_iff_toInt_lt, Int32.le_iff_toInt_le, ← Int32.toInt_inj, Int32.reduceToInt, n_1, n_2, n_8, Int32.toNatClampNeg, Int64.lt_iff_toInt_lt, Int64.le_iff_toInt_le, ← Int64.toInt_inj, Int64.reduceToInt, Int32.toInt_toInt64, lg_cmp_ge, lg_cmp_le, lg_cmp_gt, lg_cmp_lt, lg_cmp_eq, Bool.false_eq_true, Bool.true_eq_false, reduceCtorEq, false_iff, true_iff, iff_true, iff_false, and_true, true_and, and_false, false_and, reduceIte, ite_true, ite_false, eq_self] at *)) <;> omega) _ _ _ ⟨Fs23, (khi25_0), (khi25_1), (khi25_2), As23_134, As23_135, As23_136, As23_137, Ps23_INW, Ps23_WOK, Ps23_WKS, (by ((try simp only [vp_in_iff, Int32.lt_iff_toInt_lt, Int32.le_iff_toInt_le, ← Int32.toInt_inj, Int32.reduceToInt, n_1, n_2, n_8, Int32.toNatClampNeg, Int64.lt_iff_toInt_lt, Int64.le_iff_toInt_le, ← Int64.toInt_inj, Int64.reduceToInt, Int32.toInt_toInt64, lg_cmp_ge, lg_cmp_le, lg_cmp_gt, lg_cmp_lt, lg_cmp_eq, Bool.false_eq_true, Bool.true_eq_false, reduceCtorEq, false_iff, true_iff, iff_true, iff_false, and_true, true_and, and_false, false_and, reduceIte, ite_true, ite_false, eq_self] at *)) <;> omega), trivial⟩ rfl
                  exact hi25 _ _ _ _ ⟨Fs16, (khi18_0), (khi18_1), (khi18_2), As16_134, As16_135, As16_136, As16_137, Ps16_INW, Ps16_WOK, Ps16_WKS, (by ((try simp only [vp_in_iff, Int32.lt_iff_toInt_lt, Int32.le_iff_toInt_le, ← Int32.toInt_inj, Int32.reduceToInt, n_1, n_2, n_8, Int32.toNatClampNeg, Int64.lt_iff_toInt_lt, Int64.le_iff_toInt_le, ← Int64.toInt_inj, Int64.reduceToInt, Int32.toInt_toInt64, lg_cmp_ge, lg_cmp_le, lg_cmp_gt, lg_cmp_lt, lg_cmp_eq, Bool.false_eq_true, Bool.true_eq_false, reduceCtorEq, false_iff, true_iff, iff_true, iff_false, and_true, true_and, and_false, false_and, reduceIte, ite_true, ite_false, eq_self] at *)) <;> omega), trivial⟩ rfl
            exact hi18 _ _ _ ⟨Fs14, ((Fm.gi fs14 (q := 84) (k := 33) rfl rfl).trans ((Fm.gi fs12 (q := 84) (k := 33) rfl rfl).trans ((Fm.gi fs10 (q := 84) (k := 33) rfl rfl).trans (Fm.gi fs1 (q := 84) (k := 33) rfl rfl)))), (Fm.gi fs14 (q := 84) (k := 119) rfl rfl), ((Fm.gi fs14 (q := 84) (k := 32) rfl rfl).trans ((Fm.gi fs12 (q := 84) (k := 32) rfl rfl).trans ((Fm.gi fs10 (q := 84) (k := 32) rfl rfl).trans (Fm.gi fs1 (q := 84) (k := 32) rfl rfl)))), As14_134, (ar_fm fs14 rfl rfl As12_135), (ar_fm fs14 rfl rfl As12_136), (ar_fm fs14 rfl rfl As12_137), Ps14_INW, (WOK_of (fun k => Fm.gi fs14 (q := 135) (k := k) rfl rfl) (fun k => Fm.gi fs14 (q := 136) (k := k) rfl rfl) Ps12_WOK), Ps14_WKS, (by ((try simp only [vp_in_iff, Int32.lt_iff_toInt_lt, Int32.le_iff_toInt_le, ← Int32.toInt_inj, Int32.reduceToInt, n_1, n_2, n_8, Int32.toNatClampNeg, Int64.lt_iff_toInt_lt, Int64.le_iff_toInt_le, ← Int64.toInt_inj, Int64.reduceToInt, Int32.toInt_toInt64, lg_cmp_ge, lg_cmp_le, lg_cmp_gt, lg_cmp_lt, lg_cmp_eq, Bool.false_eq_true, Bool.true_eq_false, reduceCtorEq, false_iff, true_iff, iff_true, iff_false, and_true, true_and, and_false, false_and, reduceIte, ite_true, ite_false, eq_self] at *)) <;> omega), trivial⟩ rfl
          · have mh9 := nle_mx h9
            refine wa_iload rfl ?_
            refine wa_if_ne o_X12_holds_47 (by decide) (fun h106 => ?_) (fun h106 => ?_)
            · refine wa_iload rfl ?_
              refine wa_iconst (v := 1) (by decide) ?_
              refine wa_icmp_ne o_X12_holds_58 (by decide) (fun h107 => ?_) (fun h107 => ?_)
              · refine wa_iload rfl ?_
                refine wa_iconst (v := 2) (by decide) ?_
                refine wa_icmp_ne o_X12_holds_69 (by decide) (fun h108 => ?_) (fun h108 => ?_)
                · refine wa_lload rfl ?_
                  refine wa_lstoreD (lv' := [(13, .long a4), (0, .ref 84), (1, .int a0), (2, .long a1), (4, .long a2), (6, .long a3), (8, .long a4), (10, .long (1000000000000)), (12, .int l12)]) (by decide) rfl ?_
                  refine wa_lload rfl ?_
                  refine wa_lload rfl ?_
                  refine wa_lcmp ?_
                  refine wa_top (fun v109 hv109 => ?_)
                  have tv109 := i_cmpT hv109
                  clear hv109
                  refine wa_if_gt o_X12_holds_91 (by decide) (fun h110 => ?_) (fun h110 => ?_)
                  · refine wa_bipush (v := (-102)) (by decide) ?_
                    refine wa_ireturn rfl rfl ?_
                    exact ⟨_, rfl, Fs1, (ar_fm fs1 rfl rfl A_134), (ar_fm fs1 rfl rfl A_135), (ar_fm fs1 rfl rfl A_136), (ar_fm fs1 rfl rfl A_137), (INW_of (fun k => Fm.gb fs1 (q := 133) (k := k) rfl rfl) (fun k => Fm.gi fs1 (q := 156) (k := k) rfl rfl) (Fm.gi fs1 (q := 84) (k := 119) rfl rfl) (fun k => Fm.gi fs1 (q := 157) (k := k) rfl rfl) (fun k => Fm.gi fs1 (q := 158) (k := k) rfl rfl) (fun k => Fm.gi fs1 (q := 159) (k := k) rfl rfl) (fun k => Fm.gi fs1 (q := 135) (k := k) rfl rfl) (fun k => Fm.gi fs1 (q := 136) (k := k) rfl rfl) (fun k => Fm.gi fs1 (q := 137) (k := k) rfl rfl) P_INW), (WOK_of (fun k => Fm.gi fs1 (q := 135) (k := k) rfl rfl) (fun k => Fm.gi fs1 (q := 136) (k := k) rfl rfl) P_WOK), (WKS_of (fun k => Fm.gb fs1 (q := 133) (k := k) rfl rfl) (fun k => Fm.gi fs1 (q := 156) (k := k) rfl rfl) (fun k => Fm.gi fs1 (q := 134) (k := k) rfl rfl) P_WKS), trivial⟩
                  · refine wa_lload rfl ?_
                    refine wa_lconst (v := 0) (by decide) ?_
                    refine wa_lload rfl ?_
                    refine wa_lsub ?_
                    refine wa_topl (fun v111 hv111 => ?_)
                    clear hv111
                    refine wa_lcmp ?_
                    refine wa_top (fun v112 hv112 => ?_)
                    have tv112 := i_cmpT hv112
                    clear hv112
                    refine wa_if_ge o_X12_holds_94 (by decide) (fun h113 => ?_) (fun h113 => ?_)
                    · refine wa_iinc (v := (1)) (lv' := fun y114 => [(12, .int y114), (13, .long a4), (0, .ref 84), (1, .int a0), (2, .long a1), (4, .long a2), (6, .long a3), (8, .long a4), (10, .long (1000000000000))]) (by decide) rfl (by decide) (fun _ => rfl) (fun y114 hy114 => ?_)
                      have ty114 := i_addT hy114.symm
                      clear hy114
                      refine wa_goto o_X12_holds_29 (by decide) ?_
                      refine wa_pick [2, 3, 4, 5, 6, 7, 8, 0] rfl ?_
                      exact ih7 _ (by ((try simp only [vp_in_iff, Int32.lt_iff_toInt_lt, Int32.le_iff_toInt_le, ← Int32.toInt_inj, Int32.reduceToInt, n_1, n_2, n_8, Int32.toNatClampNeg, Int64.lt_iff_toInt_lt, Int64.le_iff_toInt_le, ← Int64.toInt_inj, Int64.reduceToInt, Int32.toInt_toInt64, lg_cmp_ge, lg_cmp_le, lg_cmp_gt, lg_cmp_lt, lg_cmp_eq, Bool.false_eq_true, Bool.true_eq_false, reduceCtorEq, false_iff, true_iff, iff_true, iff_false, and_true, true_and, and_false, false_and, reduceIte, ite_true, ite_false, eq_self] at *)) <;> omega) _ ⟨(by ((try simp only [vp_in_iff, Int32.lt_iff_toInt_lt, Int32.le_iff_toInt_le, ← Int32.toInt_inj, Int32.reduceToInt, n_1, n_2, n_8, Int32.toNatClampNeg, Int64.lt_iff_toInt_lt, Int64.le_iff_toInt_le, ← Int64.toInt_inj, Int64.reduceToInt, Int32.toInt_toInt64, lg_cmp_ge, lg_cmp_le, lg_cmp_gt, lg_cmp_lt, lg_cmp_eq, Bool.false_eq_true, Bool.true_eq_false, reduceCtorEq, false_iff, true_iff, iff_true, iff_false, and_true, true_and, and_false, false_and, reduceIte, ite_true, ite_false, eq_self] at *)) <;> omega), trivial⟩ rfl
                    · refine wa_bipush (v := (-102)) (by decide) ?_
                      refine wa_ireturn rfl rfl ?_
                      exact ⟨_, rfl, Fs1, (ar_fm fs1 rfl rfl A_134), (ar_fm fs1 rfl rfl A_135), (ar_fm fs1 rfl rfl A_136), (ar_fm fs1 rfl rfl A_137), (INW_of (fun k => Fm.gb fs1 (q := 133) (k := k) rfl rfl) (fun k => Fm.gi fs1 (q := 156) (k := k) rfl rfl) (Fm.gi fs1 (q := 84) (k := 119) rfl rfl) (fun k => Fm.gi fs1 (q := 157) (k := k) rfl rfl) (fun k => Fm.gi fs1 (q := 158) (k := k) rfl rfl) (fun k => Fm.gi fs1 (q := 159) (k := k) rfl rfl) (fun k => Fm.gi fs1 (q := 135) (k := k) rfl rfl) (fun k => Fm.gi fs1 (q := 136) (k := k) rfl rfl) (fun k => Fm.gi fs1 (q := 137) (k := k) rfl rfl) P_INW), (WOK_of (fun k => Fm.gi fs1 (q := 135) (k := k) rfl rfl) (fun k => Fm.gi fs1 (q := 136) (k := k) rfl rfl) P_WOK), (WKS_of (fun k => Fm.gb fs1 (q := 133) (k := k) rfl rfl) (fun k => Fm.gi fs1 (q := 156) (k := k) rfl rfl) (fun k => Fm.gi fs1 (q := 134) (k := k) rfl rfl) P_WKS), trivial⟩
                · refine wa_lload rfl ?_
                  refine wa_goto o_X12_holds_71 (by decide) ?_
                  refine wa_lstoreD (lv' := [(13, .long a3), (0, .ref 84), (1, .int a0), (2, .long a1), (4, .long a2), (6, .long a3), (8, .long a4), (10, .long (1000000000000)), (12, .int l12)]) (by decide) rfl ?_
                  refine wa_lload rfl ?_
                  refine wa_lload rfl ?_
                  refine wa_lcmp ?_
                  refine wa_top (fun v115 hv115 => ?_)
                  have tv115 := i_cmpT hv115
                  clear hv115
                  refine wa_if_gt o_X12_holds_91 (by decide) (fun h116 => ?_) (fun h116 => ?_)
                  · refine wa_bipush (v := (-102)) (by decide) ?_
                    refine wa_ireturn rfl rfl ?_
                    exact ⟨_, rfl, Fs1, (ar_fm fs1 rfl rfl A_134), (ar_fm fs1 rfl rfl A_135), (ar_fm fs1 rfl rfl A_136), (ar_fm fs1 rfl rfl A_137), (INW_of (fun k => Fm.gb fs1 (q := 133) (k := k) rfl rfl) (fun k => Fm.gi fs1 (q := 156) (k := k) rfl rfl) (Fm.gi fs1 (q := 84) (k := 119) rfl rfl) (fun k => Fm.gi fs1 (q := 157) (k := k) rfl rfl) (fun k => Fm.gi fs1 (q := 158) (k := k) rfl rfl) (fun k => Fm.gi fs1 (q := 159) (k := k) rfl rfl) (fun k => Fm.gi fs1 (q := 135) (k := k) rfl rfl) (fun k => Fm.gi fs1 (q := 136) (k := k) rfl rfl) (fun k => Fm.gi fs1 (q := 137) (k := k) rfl rfl) P_INW), (WOK_of (fun k => Fm.gi fs1 (q := 135) (k := k) rfl rfl) (fun k => Fm.gi fs1 (q := 136) (k := k) rfl rfl) P_WOK), (WKS_of (fun k => Fm.gb fs1 (q := 133) (k := k) rfl rfl) (fun k => Fm.gi fs1 (q := 156) (k := k) rfl rfl) (fun k => Fm.gi fs1 (q := 134) (k := k) rfl rfl) P_WKS), trivial⟩
                  · refine wa_lload rfl ?_
                    refine wa_lconst (v := 0) (by decide) ?_
                    refine wa_lload rfl ?_
                    refine wa_lsub ?_
                    refine wa_topl (fun v117 hv117 => ?_)
                    clear hv117
                    refine wa_lcmp ?_
                    refine wa_top (fun v118 hv118 => ?_)
                    have tv118 := i_cmpT hv118
                    clear hv118
                    refine wa_if_ge o_X12_holds_94 (by decide) (fun h119 => ?_) (fun h119 => ?_)
                    · refine wa_iinc (v := (1)) (lv' := fun y120 => [(12, .int y120), (13, .long a3), (0, .ref 84), (1, .int a0), (2, .long a1), (4, .long a2), (6, .long a3), (8, .long a4), (10, .long (1000000000000))]) (by decide) rfl (by decide) (fun _ => rfl) (fun y120 hy120 => ?_)
                      have ty120 := i_addT hy120.symm
                      clear hy120
                      refine wa_goto o_X12_holds_29 (by decide) ?_
                      refine wa_pick [2, 3, 4, 5, 6, 7, 8, 0] rfl ?_
                      exact ih7 _ (by ((try simp only [vp_in_iff, Int32.lt_iff_toInt_lt, Int32.le_iff_toInt_le, ← Int32.toInt_inj, Int32.reduceToInt, n_1, n_2, n_8, Int32.toNatClampNeg, Int64.lt_iff_toInt_lt, Int64.le_iff_toInt_le, ← Int64.toInt_inj, Int64.reduceToInt, Int32.toInt_toInt64, lg_cmp_ge, lg_cmp_le, lg_cmp_gt, lg_cmp_lt, lg_cmp_eq, Bool.false_eq_true, Bool.true_eq_false, reduceCtorEq, false_iff, true_iff, iff_true, iff_false, and_true, true_and, and_false, false_and, reduceIte, ite_true, ite_false, eq_self] at *)) <;> omega) _ ⟨(by ((try simp only [vp_in_iff, Int32.lt_iff_toInt_lt, Int32.le_iff_toInt_le, ← Int32.toInt_inj, Int32.reduceToInt, n_1, n_2, n_8, Int32.toNatClampNeg, Int64.lt_iff_toInt_lt, Int64.le_iff_toInt_le, ← Int64.toInt_inj, Int64.reduceToInt, Int32.toInt_toInt64, lg_cmp_ge, lg_cmp_le, lg_cmp_gt, lg_cmp_lt, lg_cmp_eq, Bool.false_eq_true, Bool.true_eq_false, reduceCtorEq, false_iff, true_iff, iff_true, iff_false, and_true, true_and, and_false, false_and, reduceIte, ite_true, ite_false, eq_self] at *)) <;> omega), trivial⟩ rfl
                    · refine wa_bipush (v := (-102)) (by decide) ?_
                      refine wa_ireturn rfl rfl ?_
                      exact ⟨_, rfl, Fs1, (ar_fm fs1 rfl rfl A_134), (ar_fm fs1 rfl rfl A_135), (ar_fm fs1 rfl rfl A_136), (ar_fm fs1 rfl rfl A_137), (INW_of (fun k => Fm.gb fs1 (q := 133) (k := k) rfl rfl) (fun k => Fm.gi fs1 (q := 156) (k := k) rfl rfl) (Fm.gi fs1 (q := 84) (k := 119) rfl rfl) (fun k => Fm.gi fs1 (q := 157) (k := k) rfl rfl) (fun k => Fm.gi fs1 (q := 158) (k := k) rfl rfl) (fun k => Fm.gi fs1 (q := 159) (k := k) rfl rfl) (fun k => Fm.gi fs1 (q := 135) (k := k) rfl rfl) (fun k => Fm.gi fs1 (q := 136) (k := k) rfl rfl) (fun k => Fm.gi fs1 (q := 137) (k := k) rfl rfl) P_INW), (WOK_of (fun k => Fm.gi fs1 (q := 135) (k := k) rfl rfl) (fun k => Fm.gi fs1 (q := 136) (k := k) rfl rfl) P_WOK), (WKS_of (fun k => Fm.gb fs1 (q := 133) (k := k) rfl rfl) (fun k => Fm.gi fs1 (q := 156) (k := k) rfl rfl) (fun k => Fm.gi fs1 (q := 134) (k := k) rfl rfl) P_WKS), trivial⟩
              · refine wa_lload rfl ?_
                refine wa_goto o_X12_holds_71 (by decide) ?_
                refine wa_lstoreD (lv' := [(13, .long a2), (0, .ref 84), (1, .int a0), (2, .long a1), (4, .long a2), (6, .long a3), (8, .long a4), (10, .long (1000000000000)), (12, .int l12)]) (by decide) rfl ?_
                refine wa_lload rfl ?_
                refine wa_lload rfl ?_
                refine wa_lcmp ?_
                refine wa_top (fun v121 hv121 => ?_)
                have tv121 := i_cmpT hv121
                clear hv121
                refine wa_if_gt o_X12_holds_91 (by decide) (fun h122 => ?_) (fun h122 => ?_)
                · refine wa_bipush (v := (-102)) (by decide) ?_
                  refine wa_ireturn rfl rfl ?_
                  exact ⟨_, rfl, Fs1, (ar_fm fs1 rfl rfl A_134), (ar_fm fs1 rfl rfl A_135), (ar_fm fs1 rfl rfl A_136), (ar_fm fs1 rfl rfl A_137), (INW_of (fun k => Fm.gb fs1 (q := 133) (k := k) rfl rfl) (fun k => Fm.gi fs1 (q := 156) (k := k) rfl rfl) (Fm.gi fs1 (q := 84) (k := 119) rfl rfl) (fun k => Fm.gi fs1 (q := 157) (k := k) rfl rfl) (fun k => Fm.gi fs1 (q := 158) (k := k) rfl rfl) (fun k => Fm.gi fs1 (q := 159) (k := k) rfl rfl) (fun k => Fm.gi fs1 (q := 135) (k := k) rfl rfl) (fun k => Fm.gi fs1 (q := 136) (k := k) rfl rfl) (fun k => Fm.gi fs1 (q := 137) (k := k) rfl rfl) P_INW), (WOK_of (fun k => Fm.gi fs1 (q := 135) (k := k) rfl rfl) (fun k => Fm.gi fs1 (q := 136) (k := k) rfl rfl) P_WOK), (WKS_of (fun k => Fm.gb fs1 (q := 133) (k := k) rfl rfl) (fun k => Fm.gi fs1 (q := 156) (k := k) rfl rfl) (fun k => Fm.gi fs1 (q := 134) (k := k) rfl rfl) P_WKS), trivial⟩
                · refine wa_lload rfl ?_
                  refine wa_lconst (v := 0) (by decide) ?_
                  refine wa_lload rfl ?_
                  refine wa_lsub ?_
                  refine wa_topl (fun v123 hv123 => ?_)
                  clear hv123
                  refine wa_lcmp ?_
                  refine wa_top (fun v124 hv124 => ?_)
                  have tv124 := i_cmpT hv124
                  clear hv124
                  refine wa_if_ge o_X12_holds_94 (by decide) (fun h125 => ?_) (fun h125 => ?_)
                  · refine wa_iinc (v := (1)) (lv' := fun y126 => [(12, .int y126), (13, .long a2), (0, .ref 84), (1, .int a0), (2, .long a1), (4, .long a2), (6, .long a3), (8, .long a4), (10, .long (1000000000000))]) (by decide) rfl (by decide) (fun _ => rfl) (fun y126 hy126 => ?_)
                    have ty126 := i_addT hy126.symm
                    clear hy126
                    refine wa_goto o_X12_holds_29 (by decide) ?_
                    refine wa_pick [2, 3, 4, 5, 6, 7, 8, 0] rfl ?_
                    exact ih7 _ (by ((try simp only [vp_in_iff, Int32.lt_iff_toInt_lt, Int32.le_iff_toInt_le, ← Int32.toInt_inj, Int32.reduceToInt, n_1, n_2, n_8, Int32.toNatClampNeg, Int64.lt_iff_toInt_lt, Int64.le_iff_toInt_le, ← Int64.toInt_inj, Int64.reduceToInt, Int32.toInt_toInt64, lg_cmp_ge, lg_cmp_le, lg_cmp_gt, lg_cmp_lt, lg_cmp_eq, Bool.false_eq_true, Bool.true_eq_false, reduceCtorEq, false_iff, true_iff, iff_true, iff_false, and_true, true_and, and_false, false_and, reduceIte, ite_true, ite_false, eq_self] at *)) <;> omega) _ ⟨(by ((try simp only [vp_in_iff, Int32.lt_iff_toInt_lt, Int32.le_iff_toInt_le, ← Int32.toInt_inj, Int32.reduceToInt, n_1, n_2, n_8, Int32.toNatClampNeg, Int64.lt_iff_toInt_lt, Int64.le_iff_toInt_le, ← Int64.toInt_inj, Int64.reduceToInt, Int32.toInt_toInt64, lg_cmp_ge, lg_cmp_le, lg_cmp_gt, lg_cmp_lt, lg_cmp_eq, Bool.false_eq_true, Bool.true_eq_false, reduceCtorEq, false_iff, true_iff, iff_true, iff_false, and_true, true_and, and_false, false_and, reduceIte, ite_true, ite_false, eq_self] at *)) <;> omega), trivial⟩ rfl
                  · refine wa_bipush (v := (-102)) (by decide) ?_
                    refine wa_ireturn rfl rfl ?_
                    exact ⟨_, rfl, Fs1, (ar_fm fs1 rfl rfl A_134), (ar_fm fs1 rfl rfl A_135), (ar_fm fs1 rfl rfl A_136), (ar_fm fs1 rfl rfl A_137), (INW_of (fun k => Fm.gb fs1 (q := 133) (k := k) rfl rfl) (fun k => Fm.gi fs1 (q := 156) (k := k) rfl rfl) (Fm.gi fs1 (q := 84) (k := 119) rfl rfl) (fun k => Fm.gi fs1 (q := 157) (k := k) rfl rfl) (fun k => Fm.gi fs1 (q := 158) (k := k) rfl rfl) (fun k => Fm.gi fs1 (q := 159) (k := k) rfl rfl) (fun k => Fm.gi fs1 (q := 135) (k := k) rfl rfl) (fun k => Fm.gi fs1 (q := 136) (k := k) rfl rfl) (fun k => Fm.gi fs1 (q := 137) (k := k) rfl rfl) P_INW), (WOK_of (fun k => Fm.gi fs1 (q := 135) (k := k) rfl rfl) (fun k => Fm.gi fs1 (q := 136) (k := k) rfl rfl) P_WOK), (WKS_of (fun k => Fm.gb fs1 (q := 133) (k := k) rfl rfl) (fun k => Fm.gi fs1 (q := 156) (k := k) rfl rfl) (fun k => Fm.gi fs1 (q := 134) (k := k) rfl rfl) P_WKS), trivial⟩
            · refine wa_lload_n (i := 2) rfl rfl ?_
              refine wa_goto o_X12_holds_71 (by decide) ?_
              refine wa_lstoreD (lv' := [(13, .long a1), (0, .ref 84), (1, .int a0), (2, .long a1), (4, .long a2), (6, .long a3), (8, .long a4), (10, .long (1000000000000)), (12, .int l12)]) (by decide) rfl ?_
              refine wa_lload rfl ?_
              refine wa_lload rfl ?_
              refine wa_lcmp ?_
              refine wa_top (fun v127 hv127 => ?_)
              have tv127 := i_cmpT hv127
              clear hv127
              refine wa_if_gt o_X12_holds_91 (by decide) (fun h128 => ?_) (fun h128 => ?_)
              · refine wa_bipush (v := (-102)) (by decide) ?_
                refine wa_ireturn rfl rfl ?_
                exact ⟨_, rfl, Fs1, (ar_fm fs1 rfl rfl A_134), (ar_fm fs1 rfl rfl A_135), (ar_fm fs1 rfl rfl A_136), (ar_fm fs1 rfl rfl A_137), (INW_of (fun k => Fm.gb fs1 (q := 133) (k := k) rfl rfl) (fun k => Fm.gi fs1 (q := 156) (k := k) rfl rfl) (Fm.gi fs1 (q := 84) (k := 119) rfl rfl) (fun k => Fm.gi fs1 (q := 157) (k := k) rfl rfl) (fun k => Fm.gi fs1 (q := 158) (k := k) rfl rfl) (fun k => Fm.gi fs1 (q := 159) (k := k) rfl rfl) (fun k => Fm.gi fs1 (q := 135) (k := k) rfl rfl) (fun k => Fm.gi fs1 (q := 136) (k := k) rfl rfl) (fun k => Fm.gi fs1 (q := 137) (k := k) rfl rfl) P_INW), (WOK_of (fun k => Fm.gi fs1 (q := 135) (k := k) rfl rfl) (fun k => Fm.gi fs1 (q := 136) (k := k) rfl rfl) P_WOK), (WKS_of (fun k => Fm.gb fs1 (q := 133) (k := k) rfl rfl) (fun k => Fm.gi fs1 (q := 156) (k := k) rfl rfl) (fun k => Fm.gi fs1 (q := 134) (k := k) rfl rfl) P_WKS), trivial⟩
              · refine wa_lload rfl ?_
                refine wa_lconst (v := 0) (by decide) ?_
                refine wa_lload rfl ?_
                refine wa_lsub ?_
                refine wa_topl (fun v129 hv129 => ?_)
                clear hv129
                refine wa_lcmp ?_
                refine wa_top (fun v130 hv130 => ?_)
                have tv130 := i_cmpT hv130
                clear hv130
                refine wa_if_ge o_X12_holds_94 (by decide) (fun h131 => ?_) (fun h131 => ?_)
                · refine wa_iinc (v := (1)) (lv' := fun y132 => [(12, .int y132), (13, .long a1), (0, .ref 84), (1, .int a0), (2, .long a1), (4, .long a2), (6, .long a3), (8, .long a4), (10, .long (1000000000000))]) (by decide) rfl (by decide) (fun _ => rfl) (fun y132 hy132 => ?_)
                  have ty132 := i_addT hy132.symm
                  clear hy132
                  refine wa_goto o_X12_holds_29 (by decide) ?_
                  refine wa_pick [2, 3, 4, 5, 6, 7, 8, 0] rfl ?_
                  exact ih7 _ (by ((try simp only [vp_in_iff, Int32.lt_iff_toInt_lt, Int32.le_iff_toInt_le, ← Int32.toInt_inj, Int32.reduceToInt, n_1, n_2, n_8, Int32.toNatClampNeg, Int64.lt_iff_toInt_lt, Int64.le_iff_toInt_le, ← Int64.toInt_inj, Int64.reduceToInt, Int32.toInt_toInt64, lg_cmp_ge, lg_cmp_le, lg_cmp_gt, lg_cmp_lt, lg_cmp_eq, Bool.false_eq_true, Bool.true_eq_false, reduceCtorEq, false_iff, true_iff, iff_true, iff_false, and_true, true_and, and_false, false_and, reduceIte, ite_true, ite_false, eq_self] at *)) <;> omega) _ ⟨(by ((try simp only [vp_in_iff, Int32.lt_iff_toInt_lt, Int32.le_iff_toInt_le, ← Int32.toInt_inj, Int32.reduceToInt, n_1, n_2, n_8, Int32.toNatClampNeg, Int64.lt_iff_toInt_lt, Int64.le_iff_toInt_le, ← Int64.toInt_inj, Int64.reduceToInt, Int32.toInt_toInt64, lg_cmp_ge, lg_cmp_le, lg_cmp_gt, lg_cmp_lt, lg_cmp_eq, Bool.false_eq_true, Bool.true_eq_false, reduceCtorEq, false_iff, true_iff, iff_true, iff_false, and_true, true_and, and_false, false_and, reduceIte, ite_true, ite_false, eq_self] at *)) <;> omega), trivial⟩ rfl
                · refine wa_bipush (v := (-102)) (by decide) ?_
                  refine wa_ireturn rfl rfl ?_
                  exact ⟨_, rfl, Fs1, (ar_fm fs1 rfl rfl A_134), (ar_fm fs1 rfl rfl A_135), (ar_fm fs1 rfl rfl A_136), (ar_fm fs1 rfl rfl A_137), (INW_of (fun k => Fm.gb fs1 (q := 133) (k := k) rfl rfl) (fun k => Fm.gi fs1 (q := 156) (k := k) rfl rfl) (Fm.gi fs1 (q := 84) (k := 119) rfl rfl) (fun k => Fm.gi fs1 (q := 157) (k := k) rfl rfl) (fun k => Fm.gi fs1 (q := 158) (k := k) rfl rfl) (fun k => Fm.gi fs1 (q := 159) (k := k) rfl rfl) (fun k => Fm.gi fs1 (q := 135) (k := k) rfl rfl) (fun k => Fm.gi fs1 (q := 136) (k := k) rfl rfl) (fun k => Fm.gi fs1 (q := 137) (k := k) rfl rfl) P_INW), (WOK_of (fun k => Fm.gi fs1 (q := 135) (k := k) rfl rfl) (fun k => Fm.gi fs1 (q := 136) (k := k) rfl rfl) P_WOK), (WKS_of (fun k => Fm.gb fs1 (q := 133) (k := k) rfl rfl) (fun k => Fm.gi fs1 (q := 156) (k := k) rfl rfl) (fun k => Fm.gi fs1 (q := 134) (k := k) rfl rfl) P_WKS), trivial⟩
      exact hi8 _ _ ⟨(by ((try simp only [vp_in_iff, Int32.lt_iff_toInt_lt, Int32.le_iff_toInt_le, ← Int32.toInt_inj, Int32.reduceToInt, n_1, n_2, n_8, Int32.toNatClampNeg, Int64.lt_iff_toInt_lt, Int64.le_iff_toInt_le, ← Int64.toInt_inj, Int64.reduceToInt, Int32.toInt_toInt64, lg_cmp_ge, lg_cmp_le, lg_cmp_gt, lg_cmp_lt, lg_cmp_eq, Bool.false_eq_true, Bool.true_eq_false, reduceCtorEq, false_iff, true_iff, iff_true, iff_false, and_true, true_and, and_false, false_and, reduceIte, ite_true, ite_false, eq_self] at *)) <;> omega), trivial⟩ rfl
    · replace h6 := bI_f (b := bx5) (rfl) h6
      have uh6_0 := iff_f cx5_1 h6
      refine wa_bipush (v := (-101)) (by decide) ?_
      refine wa_ireturn rfl rfl ?_
      exact ⟨_, rfl, Fs1, (ar_fm fs1 rfl rfl A_134), (ar_fm fs1 rfl rfl A_135), (ar_fm fs1 rfl rfl A_136), (ar_fm fs1 rfl rfl A_137), (INW_of (fun k => Fm.gb fs1 (q := 133) (k := k) rfl rfl) (fun k => Fm.gi fs1 (q := 156) (k := k) rfl rfl) (Fm.gi fs1 (q := 84) (k := 119) rfl rfl) (fun k => Fm.gi fs1 (q := 157) (k := k) rfl rfl) (fun k => Fm.gi fs1 (q := 158) (k := k) rfl rfl) (fun k => Fm.gi fs1 (q := 159) (k := k) rfl rfl) (fun k => Fm.gi fs1 (q := 135) (k := k) rfl rfl) (fun k => Fm.gi fs1 (q := 136) (k := k) rfl rfl) (fun k => Fm.gi fs1 (q := 137) (k := k) rfl rfl) P_INW), (WOK_of (fun k => Fm.gi fs1 (q := 135) (k := k) rfl rfl) (fun k => Fm.gi fs1 (q := 136) (k := k) rfl rfl) P_WOK), (WKS_of (fun k => Fm.gb fs1 (q := 133) (k := k) rfl rfl) (fun k => Fm.gi fs1 (q := 156) (k := k) rfl rfl) (fun k => Fm.gi fs1 (q := 134) (k := k) rfl rfl) P_WKS), trivial⟩
  · replace h3 := bI_f (b := bx2) (rfl) h3
    refine wa_bipush (v := (-105)) (by decide) ?_
    refine wa_ireturn rfl rfl ?_
    exact ⟨_, rfl, Fs1, (ar_fm fs1 rfl rfl A_134), (ar_fm fs1 rfl rfl A_135), (ar_fm fs1 rfl rfl A_136), (ar_fm fs1 rfl rfl A_137), (INW_of (fun k => Fm.gb fs1 (q := 133) (k := k) rfl rfl) (fun k => Fm.gi fs1 (q := 156) (k := k) rfl rfl) (Fm.gi fs1 (q := 84) (k := 119) rfl rfl) (fun k => Fm.gi fs1 (q := 157) (k := k) rfl rfl) (fun k => Fm.gi fs1 (q := 158) (k := k) rfl rfl) (fun k => Fm.gi fs1 (q := 159) (k := k) rfl rfl) (fun k => Fm.gi fs1 (q := 135) (k := k) rfl rfl) (fun k => Fm.gi fs1 (q := 136) (k := k) rfl rfl) (fun k => Fm.gi fs1 (q := 137) (k := k) rfl rfl) P_INW), (WOK_of (fun k => Fm.gi fs1 (q := 135) (k := k) rfl rfl) (fun k => Fm.gi fs1 (q := 136) (k := k) rfl rfl) P_WOK), (WKS_of (fun k => Fm.gb fs1 (q := 133) (k := k) rfl rfl) (fun k => Fm.gi fs1 (q := 156) (k := k) rfl rfl) (fun k => Fm.gi fs1 (q := 134) (k := k) rfl rfl) P_WKS), trivial⟩
set_option maxHeartbeats 4000000 in
theorem sp_X12_putOn (G : kG9) {d : Nat} (hd : 2 ≤ d) (σ : St) (r1 : 0 ≤ (gi σ 84 33).toInt ∧ (gi σ 84 33).toInt ≤ 24) (A_135 : AR ap_135 σ 135) (A_136 : AR ap_136 σ 136) (A_137 : AR ap_137 σ 137) (A_156 : AR ap_156 σ 156) (A_157 : AR ap_157 σ 157) (A_158 : AR ap_158 σ 158) (A_159 : AR ap_159 σ 159) (P_AOK : AOK σ) (P_WOK : WOK σ) : Ct G M_X12_putOn d [.ref 84] σ (fun r σ' => Fm [133, 135, 136, 137] [119] σ σ' ∧ ((gi σ' 84 119).toInt ≤ 576 ∧ 0 ≤ (gi σ' 84 119).toInt) ∧ AR ap_135 σ' 135 ∧ AR ap_136 σ' 136 ∧ AR ap_137 σ' 137 ∧ WOK σ' ∧ INW σ' ∧ True) := by
  refine wa_start (by decide) rfl (Nat.le_of_ble_eq_true rfl) (lv := [(0, .ref 84)]) rfl o_X12_putOn_0 rfl ?_
  refine wa_aload_n (i := 0) rfl rfl ?_
  refine wa_Vv (d9 := d - 1) [] [] (sp_X12_idle G (d := d - 1) (by omega) σ ) (rfl) rfl rfl (zr (by omega)) mk_X12_idle ly_84 ml_12_934 (Nat.le_of_ble_eq_true rfl) (fun s1 hs1 => ?_)
  obtain ⟨fs1, cx2_1, Ps1_INW, -⟩ := hs1
  have Fs1 : Fm [133, 135, 136, 137] [119] σ s1 := Fm.tr (Fm.rf [133, 135, 136, 137] [119] σ) (Fm.wd fs1 rfl rfl)
  refine wa_iconst (v := 0) (by decide) ?_
  refine wa_istore_nD (lv' := [(1, .int 0), (0, .ref 84)]) (i := 1) rfl (by decide) rfl ?_
  refine wa_pick [1, 0] rfl ?_
  have hi5 : ∀ (n9_6 : Nat) (l1 : Int32) (s3 : St), ((Fm [133, 135, 136, 137] [119] σ s3) ∧ (gi s3 84 33 = gi σ 84 33) ∧ (AR ap_135 s3 135) ∧ (AR ap_136 s3 136) ∧ (AR ap_137 s3 137) ∧ (WOK s3) ∧ (INW s3) ∧ (0 ≤ l1.toInt) ∧ (l1.toInt ≤ 24) ∧ ((gi s3 84 119).toInt ≤ 24 * l1.toInt) ∧ (0 ≤ (gi s3 84 119).toInt) ∧ (True)) → (2147483647 - l1.toInt).toNat = n9_6 → WA G M_X12_putOn (ZM G M_X12_putOn d (fun r σ' => Fm [133, 135, 136, 137] [119] σ σ' ∧ ((gi σ' 84 119).toInt ≤ 576 ∧ 0 ≤ (gi σ' 84 119).toInt) ∧ AR ap_135 σ' 135 ∧ AR ap_136 σ' 136 ∧ AR ap_137 σ' 137 ∧ WOK σ' ∧ INW σ' ∧ True)) B_X12_putOn_6 [(0, .ref 84), (1, .int l1)] [] s3 := by
    intro n9_6
    induction n9_6 using Nat.strongRecOn with
    | _ n9_6 ih4 =>
      intro l1 s3 i9 m9_6
      obtain ⟨Fs3, khi5_0, As3_135, As3_136, As3_137, Ps3_WOK, Ps3_INW, jhi5_0, jhi5_1, jhi5_2, jhi5_3, -⟩ := i9
      have ul1 := Int32.toInt_lt l1
      have wl1 := Int32.le_toInt l1
      refine wa_iload_n (i := 1) rfl rfl ?_
      refine wa_aload_n (i := 0) rfl rfl ?_
      refine wa_geti ck_12 fl_12_818 ly_84 ?_
      refine wa_rw (khi5_0) ?_
      refine wa_icmp_ge o_X12_putOn_34 (by decide) (fun h6 => ?_) (fun h6 => ?_)
      · refine wa_return (st := []) rfl rfl ?_
        exact ⟨Fs3, (by first | assumption | (((try simp only [vp_in_iff, Int32.lt_iff_toInt_lt, Int32.le_iff_toInt_le, ← Int32.toInt_inj, Int32.reduceToInt, n_1, n_2, n_8, Int32.toNatClampNeg, Int64.lt_iff_toInt_lt, Int64.le_iff_toInt_le, ← Int64.toInt_inj, Int64.reduceToInt, Int32.toInt_toInt64, lg_cmp_ge, lg_cmp_le, lg_cmp_gt, lg_cmp_lt, lg_cmp_eq, Bool.false_eq_true, Bool.true_eq_false, reduceCtorEq, false_iff, true_iff, iff_true, iff_false, and_true, true_and, and_false, false_and, reduceIte, ite_true, ite_false, eq_self] at *)) <;> omega)), As3_135, As3_136, As3_137, Ps3_WOK, Ps3_INW, trivial⟩
      · have mh6 := nle_mx h6
        refine wa_aload_n (i := 0) rfl rfl ?_
        refine wa_getr ck_12 fl_12_265 ly_84 rf_84_103 ?_
        refine wa_iload_n (i := 1) rfl rfl ?_
        refine wa_zald ly_146 (by ((try simp only [vp_in_iff, Int32.lt_iff_toInt_lt, Int32.le_iff_toInt_le, ← Int32.toInt_inj, Int32.reduceToInt, n_1, n_2, n_8, Int32.toNatClampNeg, Int64.lt_iff_toInt_lt, Int64.le_iff_toInt_le, ← Int64.toInt_inj, Int64.reduceToInt, Int32.toInt_toInt64, lg_cmp_ge, lg_cmp_le, lg_cmp_gt, lg_cmp_lt, lg_cmp_eq, Bool.false_eq_true, Bool.true_eq_false, reduceCtorEq, false_iff, true_iff, iff_true, iff_false, and_true, true_and, and_false, false_and, reduceIte, ite_true, ite_false, eq_self] at *)) <;> omega) ?_
        refine wa_if_eq o_X12_putOn_28 (by decide) (fun h7 => ?_) (fun h7 => ?_)
        · replace h7 := bI_f (b := (gb s3 146 (l1).toNatClampNeg)) (rfl) h7
          refine wa_iinc (v := (1)) (lv' := fun y8 => [(1, .int y8), (0, .ref 84)]) (by decide) rfl (by decide) (fun _ => rfl) (fun y8 hy8 => ?_)
          have ty8 := i_addT hy8.symm
          clear hy8
          refine wa_goto o_X12_putOn_6 (by decide) ?_
          refine wa_pick [1, 0] rfl ?_
          exact ih4 _ (by ((try simp only [vp_in_iff, Int32.lt_iff_toInt_lt, Int32.le_iff_toInt_le, ← Int32.toInt_inj, Int32.reduceToInt, n_1, n_2, n_8, Int32.toNatClampNeg, Int64.lt_iff_toInt_lt, Int64.le_iff_toInt_le, ← Int64.toInt_inj, Int64.reduceToInt, Int32.toInt_toInt64, lg_cmp_ge, lg_cmp_le, lg_cmp_gt, lg_cmp_lt, lg_cmp_eq, Bool.false_eq_true, Bool.true_eq_false, reduceCtorEq, false_iff, true_iff, iff_true, iff_false, and_true, true_and, and_false, false_and, reduceIte, ite_true, ite_false, eq_self] at *)) <;> omega) _ _ ⟨Fs3, (khi5_0), As3_135, As3_136, As3_137, Ps3_WOK, Ps3_INW, (by ((try simp only [vp_in_iff, Int32.lt_iff_toInt_lt, Int32.le_iff_toInt_le, ← Int32.toInt_inj, Int32.reduceToInt, n_1, n_2, n_8, Int32.toNatClampNeg, Int64.lt_iff_toInt_lt, Int64.le_iff_toInt_le, ← Int64.toInt_inj, Int64.reduceToInt, Int32.toInt_toInt64, lg_cmp_ge, lg_cmp_le, lg_cmp_gt, lg_cmp_lt, lg_cmp_eq, Bool.false_eq_true, Bool.true_eq_false, reduceCtorEq, false_iff, true_iff, iff_true, iff_false, and_true, true_and, and_false, false_and, reduceIte, ite_true, ite_false, eq_self] at *)) <;> omega), (by ((try simp only [vp_in_iff, Int32.lt_iff_toInt_lt, Int32.le_iff_toInt_le, ← Int32.toInt_inj, Int32.reduceToInt, n_1, n_2, n_8, Int32.toNatClampNeg, Int64.lt_iff_toInt_lt, Int64.le_iff_toInt_le, ← Int64.toInt_inj, Int64.reduceToInt, Int32.toInt_toInt64, lg_cmp_ge, lg_cmp_le, lg_cmp_gt, lg_cmp_lt, lg_cmp_eq, Bool.false_eq_true, Bool.true_eq_false, reduceCtorEq, false_iff, true_iff, iff_true, iff_false, and_true, true_and, and_false, false_and, reduceIte, ite_true, ite_false, eq_self] at *)) <;> omega), (by first | assumption | (((try simp only [vp_in_iff, Int32.lt_iff_toInt_lt, Int32.le_iff_toInt_le, ← Int32.toInt_inj, Int32.reduceToInt, n_1, n_2, n_8, Int32.toNatClampNeg, Int64.lt_iff_toInt_lt, Int64.le_iff_toInt_le, ← Int64.toInt_inj, Int64.reduceToInt, Int32.toInt_toInt64, lg_cmp_ge, lg_cmp_le, lg_cmp_gt, lg_cmp_lt, lg_cmp_eq, Bool.false_eq_true, Bool.true_eq_false, reduceCtorEq, false_iff, true_iff, iff_true, iff_false, and_true, true_and, and_false, false_and, reduceIte, ite_true, ite_false, eq_self] at *)) <;> omega)), (by first | assumption | (((try simp only [vp_in_iff, Int32.lt_iff_toInt_lt, Int32.le_iff_toInt_le, ← Int32.toInt_inj, Int32.reduceToInt, n_1, n_2, n_8, Int32.toNatClampNeg, Int64.lt_iff_toInt_lt, Int64.le_iff_toInt_le, ← Int64.toInt_inj, Int64.reduceToInt, Int32.toInt_toInt64, lg_cmp_ge, lg_cmp_le, lg_cmp_gt, lg_cmp_lt, lg_cmp_eq, Bool.false_eq_true, Bool.true_eq_false, reduceCtorEq, false_iff, true_iff, iff_true, iff_false, and_true, true_and, and_false, false_and, reduceIte, ite_true, ite_false, eq_self] at *)) <;> omega)), trivial⟩ rfl
        · replace h7 := bI_t (b := (gb s3 146 (l1).toNatClampNeg)) (rfl) h7
          refine wa_aload_n (i := 0) rfl rfl ?_
          refine wa_iload_n (i := 1) rfl rfl ?_
          refine wa_Vv (d9 := d - 1) [.int _] [] (sp_X12_put G (d := d - 1) (by omega) s3 _ (by ((try simp only [vp_in_iff, Int32.lt_iff_toInt_lt, Int32.le_iff_toInt_le, ← Int32.toInt_inj, Int32.reduceToInt, n_1, n_2, n_8, Int32.toNatClampNeg, Int64.lt_iff_toInt_lt, Int64.le_iff_toInt_le, ← Int64.toInt_inj, Int64.reduceToInt, Int32.toInt_toInt64, lg_cmp_ge, lg_cmp_le, lg_cmp_gt, lg_cmp_lt, lg_cmp_eq, Bool.false_eq_true, Bool.true_eq_false, reduceCtorEq, false_iff, true_iff, iff_true, iff_false, and_true, true_and, and_false, false_and, reduceIte, ite_true, ite_false, eq_self] at *)) <;> omega) (by first | assumption | exact Or.inl rfl | exact Or.inr rfl | (((try simp only [vp_in_iff, Int32.lt_iff_toInt_lt, Int32.le_iff_toInt_le, ← Int32.toInt_inj, Int32.reduceToInt, n_1, n_2, n_8, Int32.toNatClampNeg, Int64.lt_iff_toInt_lt, Int64.le_iff_toInt_le, ← Int64.toInt_inj, Int64.reduceToInt, Int32.toInt_toInt64, lg_cmp_ge, lg_cmp_le, lg_cmp_gt, lg_cmp_lt, lg_cmp_eq, Bool.false_eq_true, Bool.true_eq_false, reduceCtorEq, false_iff, true_iff, iff_true, iff_false, and_true, true_and, and_false, false_and, reduceIte, ite_true, ite_false, eq_self] at *)) <;> omega)) As3_135 As3_136 As3_137 (ar_fm Fs3 rfl rfl A_156) (ar_fm Fs3 rfl rfl A_157) (ar_fm Fs3 rfl rfl A_158) (ar_fm Fs3 rfl rfl A_159) Ps3_INW (AOK_of (fun k => Fm.gi Fs3 (q := 157) (k := k) rfl rfl) (fun k => Fm.gi Fs3 (q := 158) (k := k) rfl rfl) P_AOK) Ps3_WOK) (rfl) rfl rfl (zr (by omega)) mk_X12_put ly_84 ml_12_937 (Nat.le_of_ble_eq_true rfl) (fun s9 hs9 => ?_)
          obtain ⟨fs9, cx10_1, cx10_2, As9_135, As9_136, As9_137, Ps9_INW, Ps9_WOK, -⟩ := hs9
          have Fs9 : Fm [133, 135, 136, 137] [119] σ s9 := Fm.tr Fs3 (Fm.wd fs9 rfl rfl)
          refine wa_iinc (v := (1)) (lv' := fun y11 => [(1, .int y11), (0, .ref 84)]) (by decide) rfl (by decide) (fun _ => rfl) (fun y11 hy11 => ?_)
          have ty11 := i_addT hy11.symm
          clear hy11
          refine wa_goto o_X12_putOn_6 (by decide) ?_
          refine wa_pick [1, 0] rfl ?_
          exact ih4 _ (by ((try simp only [vp_in_iff, Int32.lt_iff_toInt_lt, Int32.le_iff_toInt_le, ← Int32.toInt_inj, Int32.reduceToInt, n_1, n_2, n_8, Int32.toNatClampNeg, Int64.lt_iff_toInt_lt, Int64.le_iff_toInt_le, ← Int64.toInt_inj, Int64.reduceToInt, Int32.toInt_toInt64, lg_cmp_ge, lg_cmp_le, lg_cmp_gt, lg_cmp_lt, lg_cmp_eq, Bool.false_eq_true, Bool.true_eq_false, reduceCtorEq, false_iff, true_iff, iff_true, iff_false, and_true, true_and, and_false, false_and, reduceIte, ite_true, ite_false, eq_self] at *)) <;> omega) _ _ ⟨Fs9, ((Fm.gi fs9 (q := 84) (k := 33) rfl rfl).trans (khi5_0)), As9_135, As9_136, As9_137, Ps9_WOK, Ps9_INW, (by ((try simp only [vp_in_iff, Int32.lt_iff_toInt_lt, Int32.le_iff_toInt_le, ← Int32.toInt_inj, Int32.reduceToInt, n_1, n_2, n_8, Int32.toNatClampNeg, Int64.lt_iff_toInt_lt, Int64.le_iff_toInt_le, ← Int64.toInt_inj, Int64.reduceToInt, Int32.toInt_toInt64, lg_cmp_ge, lg_cmp_le, lg_cmp_gt, lg_cmp_lt, lg_cmp_eq, Bool.false_eq_true, Bool.true_eq_false, reduceCtorEq, false_iff, true_iff, iff_true, iff_false, and_true, true_and, and_false, false_and, reduceIte, ite_true, ite_false, eq_self] at *)) <;> omega), (by ((try simp only [vp_in_iff, Int32.lt_iff_toInt_lt, Int32.le_iff_toInt_le, ← Int32.toInt_inj, Int32.reduceToInt, n_1, n_2, n_8, Int32.toNatClampNeg, Int64.lt_iff_toInt_lt, Int64.le_iff_toInt_le, ← Int64.toInt_inj, Int64.reduceToInt, Int32.toInt_toInt64, lg_cmp_ge, lg_cmp_le, lg_cmp_gt, lg_cmp_lt, lg_cmp_eq, Bool.false_eq_true, Bool.true_eq_false, reduceCtorEq, false_iff, true_iff, iff_true, iff_false, and_true, true_and, and_false, false_and, reduceIte, ite_true, ite_false, eq_self] at *)) <;> omega), (by first | assumption | (((try simp only [vp_in_iff, Int32.lt_iff_toInt_lt, Int32.le_iff_toInt_le, ← Int32.toInt_inj, Int32.reduceToInt, n_1, n_2, n_8, Int32.toNatClampNeg, Int64.lt_iff_toInt_lt, Int64.le_iff_toInt_le, ← Int64.toInt_inj, Int64.reduceToInt, Int32.toInt_toInt64, lg_cmp_ge, lg_cmp_le, lg_cmp_gt, lg_cmp_lt, lg_cmp_eq, Bool.false_eq_true, Bool.true_eq_false, reduceCtorEq, false_iff, true_iff, iff_true, iff_false, and_true, true_and, and_false, false_and, reduceIte, ite_true, ite_false, eq_self] at *)) <;> omega)), (by first | assumption | (((try simp only [vp_in_iff, Int32.lt_iff_toInt_lt, Int32.le_iff_toInt_le, ← Int32.toInt_inj, Int32.reduceToInt, n_1, n_2, n_8, Int32.toNatClampNeg, Int64.lt_iff_toInt_lt, Int64.le_iff_toInt_le, ← Int64.toInt_inj, Int64.reduceToInt, Int32.toInt_toInt64, lg_cmp_ge, lg_cmp_le, lg_cmp_gt, lg_cmp_lt, lg_cmp_eq, Bool.false_eq_true, Bool.true_eq_false, reduceCtorEq, false_iff, true_iff, iff_true, iff_false, and_true, true_and, and_false, false_and, reduceIte, ite_true, ite_false, eq_self] at *)) <;> omega)), trivial⟩ rfl
  exact hi5 _ _ _ ⟨Fs1, (Fm.gi fs1 (q := 84) (k := 33) rfl rfl), (ar_fm fs1 rfl rfl A_135), (ar_fm fs1 rfl rfl A_136), (ar_fm fs1 rfl rfl A_137), (WOK_of (fun k => Fm.gi fs1 (q := 135) (k := k) rfl rfl) (fun k => Fm.gi fs1 (q := 136) (k := k) rfl rfl) P_WOK), Ps1_INW, (by ((try simp only [vp_in_iff, Int32.lt_iff_toInt_lt, Int32.le_iff_toInt_le, ← Int32.toInt_inj, Int32.reduceToInt, n_1, n_2, n_8, Int32.toNatClampNeg, Int64.lt_iff_toInt_lt, Int64.le_iff_toInt_le, ← Int64.toInt_inj, Int64.reduceToInt, Int32.toInt_toInt64, lg_cmp_ge, lg_cmp_le, lg_cmp_gt, lg_cmp_lt, lg_cmp_eq, Bool.false_eq_true, Bool.true_eq_false, reduceCtorEq, false_iff, true_iff, iff_true, iff_false, and_true, true_and, and_false, false_and, reduceIte, ite_true, ite_false, eq_self] at *)) <;> omega), (by ((try simp only [vp_in_iff, Int32.lt_iff_toInt_lt, Int32.le_iff_toInt_le, ← Int32.toInt_inj, Int32.reduceToInt, n_1, n_2, n_8, Int32.toNatClampNeg, Int64.lt_iff_toInt_lt, Int64.le_iff_toInt_le, ← Int64.toInt_inj, Int64.reduceToInt, Int32.toInt_toInt64, lg_cmp_ge, lg_cmp_le, lg_cmp_gt, lg_cmp_lt, lg_cmp_eq, Bool.false_eq_true, Bool.true_eq_false, reduceCtorEq, false_iff, true_iff, iff_true, iff_false, and_true, true_and, and_false, false_and, reduceIte, ite_true, ite_false, eq_self] at *)) <;> omega), (by first | assumption | (((try simp only [vp_in_iff, Int32.lt_iff_toInt_lt, Int32.le_iff_toInt_le, ← Int32.toInt_inj, Int32.reduceToInt, n_1, n_2, n_8, Int32.toNatClampNeg, Int64.lt_iff_toInt_lt, Int64.le_iff_toInt_le, ← Int64.toInt_inj, Int64.reduceToInt, Int32.toInt_toInt64, lg_cmp_ge, lg_cmp_le, lg_cmp_gt, lg_cmp_lt, lg_cmp_eq, Bool.false_eq_true, Bool.true_eq_false, reduceCtorEq, false_iff, true_iff, iff_true, iff_false, and_true, true_and, and_false, false_and, reduceIte, ite_true, ite_false, eq_self] at *)) <;> omega)), (by first | assumption | (((try simp only [vp_in_iff, Int32.lt_iff_toInt_lt, Int32.le_iff_toInt_le, ← Int32.toInt_inj, Int32.reduceToInt, n_1, n_2, n_8, Int32.toNatClampNeg, Int64.lt_iff_toInt_lt, Int64.le_iff_toInt_le, ← Int64.toInt_inj, Int64.reduceToInt, Int32.toInt_toInt64, lg_cmp_ge, lg_cmp_le, lg_cmp_gt, lg_cmp_lt, lg_cmp_eq, Bool.false_eq_true, Bool.true_eq_false, reduceCtorEq, false_iff, true_iff, iff_true, iff_false, and_true, true_and, and_false, false_and, reduceIte, ite_true, ite_false, eq_self] at *)) <;> omega)), trivial⟩ rfl
set_option maxHeartbeats 4000000 in
theorem sp_X12_placeOf (G : kG9) {d : Nat} (hd : 0 ≤ d) (σ : St) (r1 : (gi σ 84 119).toInt ≤ 32) (r2 : 0 ≤ (gi σ 84 129).toInt ∧ (gi σ 84 129).toInt ≤ 3000) (P_CHA : CHA σ) (P_HDS : HDS σ) (P_DI : DI σ) (P_DV : DV σ) : Ct G M_X12_placeOf d [.ref 84] σ (fun r σ' => ∃ x : Int32, r = some (.int x) ∧ Fm [126, 127, 129] [129] σ σ' ∧ (0 ≤ x.toInt ∧ x.toInt ≤ 3000) ∧ ((gi σ 84 129).toInt ≤ (gi σ' 84 129).toInt) ∧ (x.toInt < (gi σ' 84 129).toInt ∨ (x.toInt = 3000 ∧ 3000 ≤ (gi σ' 84 129).toInt)) ∧ (0 ≤ (gi σ' 84 129).toInt ∧ (gi σ' 84 129).toInt ≤ 3000) ∧ CHA σ' ∧ HDS σ' ∧ DV σ' ∧ True) := by
  refine wa_start (by decide) rfl (Nat.le_of_ble_eq_true rfl) (lv := [(0, .ref 84)]) rfl o_X12_placeOf_0 rfl ?_
  refine wa_bipush (v := 17) (by decide) ?_
  refine wa_istore_nD (lv' := [(1, .int 17), (0, .ref 84)]) (i := 1) rfl (by decide) rfl ?_
  refine wa_iconst (v := 0) (by decide) ?_
  refine wa_istore_nD (lv' := [(2, .int 0), (1, .int 17), (0, .ref 84)]) (i := 2) rfl (by decide) rfl ?_
  refine wa_pick [2, 1, 0] rfl ?_
  have hi2 : ∀ (n9_5 : Nat) (l1 : Int32) (l2 : Int32), ((0 ≤ l2.toInt) ∧ (True)) → (2147483647 - l2.toInt).toNat = n9_5 → WA G M_X12_placeOf (ZM G M_X12_placeOf d (fun r σ' => ∃ x : Int32, r = some (.int x) ∧ Fm [126, 127, 129] [129] σ σ' ∧ (0 ≤ x.toInt ∧ x.toInt ≤ 3000) ∧ ((gi σ 84 129).toInt ≤ (gi σ' 84 129).toInt) ∧ (x.toInt < (gi σ' 84 129).toInt ∨ (x.toInt = 3000 ∧ 3000 ≤ (gi σ' 84 129).toInt)) ∧ (0 ≤ (gi σ' 84 129).toInt ∧ (gi σ' 84 129).toInt ≤ 3000) ∧ CHA σ' ∧ HDS σ' ∧ DV σ' ∧ True)) B_X12_placeOf_5 [(0, .ref 84), (1, .int l1), (2, .int l2)] [] σ := by
    intro n9_5
    induction n9_5 using Nat.strongRecOn with
    | _ n9_5 ih1 =>
      intro l1 l2  i9 m9_5
      obtain ⟨jhi2_0, -⟩ := i9
      have ul1 := Int32.toInt_lt l1
      have wl1 := Int32.le_toInt l1
      have ul2 := Int32.toInt_lt l2
      have wl2 := Int32.le_toInt l2
      refine wa_iload_n (i := 2) rfl rfl ?_
      refine wa_aload_n (i := 0) rfl rfl ?_
      refine wa_geti ck_12 fl_12_928 ly_84 ?_
      refine wa_icmp_ge o_X12_placeOf_39 (by decide) (fun h3 => ?_) (fun h3 => ?_)
      · refine wa_iload_n (i := 1) rfl rfl ?_
        refine wa_sipush (v := 32767) (by decide) ?_
        refine wa_iand ?_
        refine wa_top (fun v4 hv4 => ?_)
        have tv4 := i_andT hv4
        clear hv4
        refine wa_istore_nD (lv' := [(1, .int v4), (0, .ref 84), (2, .int l2)]) (i := 1) rfl (by decide) rfl ?_
        refine wa_aload_n (i := 0) rfl rfl ?_
        refine wa_getr ck_12 fl_12_325 ly_84 rf_84_127 ?_
        refine wa_iload_n (i := 1) rfl rfl ?_
        refine wa_iald ly_127 (by ((try simp only [vp_in_iff, Int32.lt_iff_toInt_lt, Int32.le_iff_toInt_le, ← Int32.toInt_inj, Int32.reduceToInt, n_1, n_2, n_8, Int32.toNatClampNeg, Int64.lt_iff_toInt_lt, Int64.le_iff_toInt_le, ← Int64.toInt_inj, Int64.reduceToInt, Int32.toInt_toInt64, lg_cmp_ge, lg_cmp_le, lg_cmp_gt, lg_cmp_lt, lg_cmp_eq, Bool.false_eq_true, Bool.true_eq_false, reduceCtorEq, false_iff, true_iff, iff_true, iff_false, and_true, true_and, and_false, false_and, reduceIte, ite_true, ite_false, eq_self] at *)) <;> omega) ?_
        refine wa_top (fun v5 hv5 => ?_)
        have rv5 := hds_at P_HDS hv5 (by ((try simp only [vp_in_iff, Int32.lt_iff_toInt_lt, Int32.le_iff_toInt_le, ← Int32.toInt_inj, Int32.reduceToInt, n_1, n_2, n_8, Int32.toNatClampNeg, Int64.lt_iff_toInt_lt, Int64.le_iff_toInt_le, ← Int64.toInt_inj, Int64.reduceToInt, Int32.toInt_toInt64, lg_cmp_ge, lg_cmp_le, lg_cmp_gt, lg_cmp_lt, lg_cmp_eq, Bool.false_eq_true, Bool.true_eq_false, reduceCtorEq, false_iff, true_iff, iff_true, iff_false, and_true, true_and, and_false, false_and, reduceIte, ite_true, ite_false, eq_self] at *)) <;> omega)
        have qv5 := hv5
        clear hv5
        refine wa_istore_nD (lv' := [(2, .int v5), (1, .int v4), (0, .ref 84)]) (i := 2) rfl (by decide) rfl ?_
        refine wa_pick [2, 1, 0] rfl ?_
        have hi7 : ∀ (n9_52 : Nat) (l2 : Int32), ((-1 ≤ l2.toInt) ∧ (l2.toInt < (gi σ 84 129).toInt) ∧ (True)) → (l2.toInt + 1).toNat = n9_52 → WA G M_X12_placeOf (ZM G M_X12_placeOf d (fun r σ' => ∃ x : Int32, r = some (.int x) ∧ Fm [126, 127, 129] [129] σ σ' ∧ (0 ≤ x.toInt ∧ x.toInt ≤ 3000) ∧ ((gi σ 84 129).toInt ≤ (gi σ' 84 129).toInt) ∧ (x.toInt < (gi σ' 84 129).toInt ∨ (x.toInt = 3000 ∧ 3000 ≤ (gi σ' 84 129).toInt)) ∧ (0 ≤ (gi σ' 84 129).toInt ∧ (gi σ' 84 129).toInt ≤ 3000) ∧ CHA σ' ∧ HDS σ' ∧ DV σ' ∧ True)) B_X12_placeOf_52 [(0, .ref 84), (1, .int v4), (2, .int l2)] [] σ := by
          intro n9_52
          induction n9_52 using Nat.strongRecOn with
          | _ n9_52 ih6 =>
            intro l2  i9 m9_52
            obtain ⟨jhi7_0, jhi7_1, -⟩ := i9
            have ul2 := Int32.toInt_lt l2
            have wl2 := Int32.le_toInt l2
            refine wa_iload_n (i := 2) rfl rfl ?_
            refine wa_iconst (v := (-1)) (by decide) ?_
            refine wa_icmp_eq o_X12_placeOf_125 (by decide) (fun h8 => ?_) (fun h8 => ?_)
            · refine wa_aload_n (i := 0) rfl rfl ?_
              refine wa_geti ck_12 fl_12_957 ly_84 ?_
              refine wa_sipush (v := 3000) (by decide) ?_
              refine wa_icmp_ne o_X12_placeOf_139 (by decide) (fun h9 => ?_) (fun h9 => ?_)
              · refine wa_iconst (v := 0) (by decide) ?_
                refine wa_istore_nD (lv' := [(2, .int 0), (0, .ref 84), (1, .int v4)]) (i := 2) rfl (by decide) rfl ?_
                refine wa_pick [1, 2, 0] rfl ?_
                have hi12 : ∀ (n9_141 : Nat) (l2 : Int32) (s10 : St), ((Fm [126, 127, 129] [129] σ s10) ∧ (gi s10 84 119 = gi σ 84 119) ∧ (gi s10 84 129 = gi σ 84 129) ∧ (CHA s10) ∧ (HDS s10) ∧ (DV s10) ∧ (0 ≤ l2.toInt) ∧ (∀ k : Nat, (k : Int) < l2.toInt → gi s10 129 (32 * (gi s10 84 129).toInt.toNat + k) = gi s10 125 k) ∧ (True)) → (2147483647 - l2.toInt).toNat = n9_141 → WA G M_X12_placeOf (ZM G M_X12_placeOf d (fun r σ' => ∃ x : Int32, r = some (.int x) ∧ Fm [126, 127, 129] [129] σ σ' ∧ (0 ≤ x.toInt ∧ x.toInt ≤ 3000) ∧ ((gi σ 84 129).toInt ≤ (gi σ' 84 129).toInt) ∧ (x.toInt < (gi σ' 84 129).toInt ∨ (x.toInt = 3000 ∧ 3000 ≤ (gi σ' 84 129).toInt)) ∧ (0 ≤ (gi σ' 84 129).toInt ∧ (gi σ' 84 129).toInt ≤ 3000) ∧ CHA σ' ∧ HDS σ' ∧ DV σ' ∧ True)) B_X12_placeOf_141 [(0, .ref 84), (1, .int v4), (2, .int l2)] [] s10 := by
                  intro n9_141
                  induction n9_141 using Nat.strongRecOn with
                  | _ n9_141 ih11 =>
                    intro l2 s10 i9 m9_141
                    obtain ⟨Fs10, khi12_0, khi12_1, Ps10_CHA, Ps10_HDS, Ps10_DV, jhi12_0, jhi12_1, -⟩ := i9
                    have ul2 := Int32.toInt_lt l2
                    have wl2 := Int32.le_toInt l2
                    refine wa_iload_n (i := 2) rfl rfl ?_
                    refine wa_aload_n (i := 0) rfl rfl ?_
                    refine wa_geti ck_12 fl_12_928 ly_84 ?_
                    refine wa_rw (khi12_0) ?_
                    refine wa_icmp_ge o_X12_placeOf_175 (by decide) (fun h13 => ?_) (fun h13 => ?_)
                    · refine wa_aload_n (i := 0) rfl rfl ?_
                      refine wa_getr ck_12 fl_12_328 ly_84 rf_84_128 ?_
                      refine wa_aload_n (i := 0) rfl rfl ?_
                      refine wa_geti ck_12 fl_12_957 ly_84 ?_
                      refine wa_rw (khi12_1) ?_
                      refine wa_aload_n (i := 0) rfl rfl ?_
                      refine wa_getr ck_12 fl_12_325 ly_84 rf_84_127 ?_
                      refine wa_iload_n (i := 1) rfl rfl ?_
                      refine wa_iald ly_127 (by ((try simp only [vp_in_iff, Int32.lt_iff_toInt_lt, Int32.le_iff_toInt_le, ← Int32.toInt_inj, Int32.reduceToInt, n_1, n_2, n_8, Int32.toNatClampNeg, Int64.lt_iff_toInt_lt, Int64.le_iff_toInt_le, ← Int64.toInt_inj, Int64.reduceToInt, Int32.toInt_toInt64, lg_cmp_ge, lg_cmp_le, lg_cmp_gt, lg_cmp_lt, lg_cmp_eq, Bool.false_eq_true, Bool.true_eq_false, reduceCtorEq, false_iff, true_iff, iff_true, iff_false, and_true, true_and, and_false, false_and, reduceIte, ite_true, ite_false, eq_self] at *)) <;> omega) ?_
                      refine wa_top (fun v14 hv14 => ?_)
                      have rv14 := hds_at Ps10_HDS hv14 (by ((try simp only [vp_in_iff, Int32.lt_iff_toInt_lt, Int32.le_iff_toInt_le, ← Int32.toInt_inj, Int32.reduceToInt, n_1, n_2, n_8, Int32.toNatClampNeg, Int64.lt_iff_toInt_lt, Int64.le_iff_toInt_le, ← Int64.toInt_inj, Int64.reduceToInt, Int32.toInt_toInt64, lg_cmp_ge, lg_cmp_le, lg_cmp_gt, lg_cmp_lt, lg_cmp_eq, Bool.false_eq_true, Bool.true_eq_false, reduceCtorEq, false_iff, true_iff, iff_true, iff_false, and_true, true_and, and_false, false_and, reduceIte, ite_true, ite_false, eq_self] at *)) <;> omega)
                      have qv14 := hv14
                      clear hv14
                      refine wa_iast ly_126 (by ((try simp only [vp_in_iff, Int32.lt_iff_toInt_lt, Int32.le_iff_toInt_le, ← Int32.toInt_inj, Int32.reduceToInt, n_1, n_2, n_8, Int32.toNatClampNeg, Int64.lt_iff_toInt_lt, Int64.le_iff_toInt_le, ← Int64.toInt_inj, Int64.reduceToInt, Int32.toInt_toInt64, lg_cmp_ge, lg_cmp_le, lg_cmp_gt, lg_cmp_lt, lg_cmp_eq, Bool.false_eq_true, Bool.true_eq_false, reduceCtorEq, false_iff, true_iff, iff_true, iff_false, and_true, true_and, and_false, false_and, reduceIte, ite_true, ite_false, eq_self] at *)) <;> omega) (fun s15 hs15 => ?_)
                      have Fs15 : Fm [126, 127, 129] [129] σ s15 := by rw [hs15]; exact Fm.si Fs10 rfl
                      refine wa_aload_n (i := 0) rfl rfl ?_
                      refine wa_getr ck_12 fl_12_325 ly_84 rf_84_127 ?_
                      refine wa_iload_n (i := 1) rfl rfl ?_
                      refine wa_aload_n (i := 0) rfl rfl ?_
                      refine wa_geti ck_12 fl_12_957 ly_84 ?_
                      refine wa_rw ((nxq_gi_si hs15 (by decide)).trans (khi12_1)) ?_
                      refine wa_iast ly_127 (by ((try simp only [vp_in_iff, Int32.lt_iff_toInt_lt, Int32.le_iff_toInt_le, ← Int32.toInt_inj, Int32.reduceToInt, n_1, n_2, n_8, Int32.toNatClampNeg, Int64.lt_iff_toInt_lt, Int64.le_iff_toInt_le, ← Int64.toInt_inj, Int64.reduceToInt, Int32.toInt_toInt64, lg_cmp_ge, lg_cmp_le, lg_cmp_gt, lg_cmp_lt, lg_cmp_eq, Bool.false_eq_true, Bool.true_eq_false, reduceCtorEq, false_iff, true_iff, iff_true, iff_false, and_true, true_and, and_false, false_and, reduceIte, ite_true, ite_false, eq_self] at *)) <;> omega) (fun s16 hs16 => ?_)
                      have Fs16 : Fm [126, 127, 129] [129] σ s16 := by rw [hs16]; exact Fm.si Fs15 rfl
                      refine wa_aload_n (i := 0) rfl rfl ?_
                      refine wa_dup rfl ?_
                      refine wa_geti ck_12 fl_12_957 ly_84 ?_
                      refine wa_rw ((nxq_gi_si hs16 (by decide)).trans ((nxq_gi_si hs15 (by decide)).trans (khi12_1))) ?_
                      refine wa_iconst (v := 1) (by decide) ?_
                      refine wa_iadd ?_
                      refine wa_top (fun v17 hv17 => ?_)
                      have tv17 := i_addT hv17
                      clear hv17
                      refine wa_puti ck_12 fl_12_957 ly_84 (fun s18 hs18 => ?_)
                      have Fs18 : Fm [126, 127, 129] [129] σ s18 := by rw [hs18]; exact Fm.si Fs16 rfl
                      have Pq := cha_add hs15 hs16 hs18 Ps10_CHA Ps10_HDS (by ((try simp only [vp_in_iff, Int32.lt_iff_toInt_lt, Int32.le_iff_toInt_le, ← Int32.toInt_inj, Int32.reduceToInt, n_1, n_2, n_8, Int32.toNatClampNeg, Int64.lt_iff_toInt_lt, Int64.le_iff_toInt_le, ← Int64.toInt_inj, Int64.reduceToInt, Int32.toInt_toInt64, lg_cmp_ge, lg_cmp_le, lg_cmp_gt, lg_cmp_lt, lg_cmp_eq, Bool.false_eq_true, Bool.true_eq_false, reduceCtorEq, false_iff, true_iff, iff_true, iff_false, and_true, true_and, and_false, false_and, reduceIte, ite_true, ite_false, eq_self] at *)) <;> omega) (Eq.symm (by assumption)) (by ((try simp only [vp_in_iff, Int32.lt_iff_toInt_lt, Int32.le_iff_toInt_le, ← Int32.toInt_inj, Int32.reduceToInt, n_1, n_2, n_8, Int32.toNatClampNeg, Int64.lt_iff_toInt_lt, Int64.le_iff_toInt_le, ← Int64.toInt_inj, Int64.reduceToInt, Int32.toInt_toInt64, lg_cmp_ge, lg_cmp_le, lg_cmp_gt, lg_cmp_lt, lg_cmp_eq, Bool.false_eq_true, Bool.true_eq_false, reduceCtorEq, false_iff, true_iff, iff_true, iff_false, and_true, true_and, and_false, false_and, reduceIte, ite_true, ite_false, eq_self] at *)) <;> omega) ((khi12_1)).symm (by ((try simp only [vp_in_iff, Int32.lt_iff_toInt_lt, Int32.le_iff_toInt_le, ← Int32.toInt_inj, Int32.reduceToInt, n_1, n_2, n_8, Int32.toNatClampNeg, Int64.lt_iff_toInt_lt, Int64.le_iff_toInt_le, ← Int64.toInt_inj, Int64.reduceToInt, Int32.toInt_toInt64, lg_cmp_ge, lg_cmp_le, lg_cmp_gt, lg_cmp_lt, lg_cmp_eq, Bool.false_eq_true, Bool.true_eq_false, reduceCtorEq, false_iff, true_iff, iff_true, iff_false, and_true, true_and, and_false, false_and, reduceIte, ite_true, ite_false, eq_self] at *)) <;> omega)
                      have Ps18_CHA := Pq.1
                      have Ps18_HDS := Pq.2
                      have Ps18_DV := dv_add hs15 hs16 hs18 Ps10_DV (DI_of (fun k => Fm.gi Fs10 (q := 125) (k := k) rfl rfl) (fun k => Fm.gi Fs10 (q := 135) (k := k) rfl rfl) (Fm.gi Fs10 (q := 84) (k := 119) rfl rfl) P_DI) (by ((try simp only [vp_in_iff, Int32.lt_iff_toInt_lt, Int32.le_iff_toInt_le, ← Int32.toInt_inj, Int32.reduceToInt, n_1, n_2, n_8, Int32.toNatClampNeg, Int64.lt_iff_toInt_lt, Int64.le_iff_toInt_le, ← Int64.toInt_inj, Int64.reduceToInt, Int32.toInt_toInt64, lg_cmp_ge, lg_cmp_le, lg_cmp_gt, lg_cmp_lt, lg_cmp_eq, Bool.false_eq_true, Bool.true_eq_false, reduceCtorEq, false_iff, true_iff, iff_true, iff_false, and_true, true_and, and_false, false_and, reduceIte, ite_true, ite_false, eq_self] at *)) <;> omega) (by ((try simp only [vp_in_iff, Int32.lt_iff_toInt_lt, Int32.le_iff_toInt_le, ← Int32.toInt_inj, Int32.reduceToInt, n_1, n_2, n_8, Int32.toNatClampNeg, Int64.lt_iff_toInt_lt, Int64.le_iff_toInt_le, ← Int64.toInt_inj, Int64.reduceToInt, Int32.toInt_toInt64, lg_cmp_ge, lg_cmp_le, lg_cmp_gt, lg_cmp_lt, lg_cmp_eq, Bool.false_eq_true, Bool.true_eq_false, reduceCtorEq, false_iff, true_iff, iff_true, iff_false, and_true, true_and, and_false, false_and, reduceIte, ite_true, ite_false, eq_self] at *)) <;> omega) (by intro k hk; refine ‹∀ k : Nat, _ → gi _ 129 _ = gi _ 125 k› k ?_; ((try simp only [vp_in_iff, Int32.lt_iff_toInt_lt, Int32.le_iff_toInt_le, ← Int32.toInt_inj, Int32.reduceToInt, n_1, n_2, n_8, Int32.toNatClampNeg, Int64.lt_iff_toInt_lt, Int64.le_iff_toInt_le, ← Int64.toInt_inj, Int64.reduceToInt, Int32.toInt_toInt64, lg_cmp_ge, lg_cmp_le, lg_cmp_gt, lg_cmp_lt, lg_cmp_eq, Bool.false_eq_true, Bool.true_eq_false, reduceCtorEq, false_iff, true_iff, iff_true, iff_false, and_true, true_and, and_false, false_and, reduceIte, ite_true, ite_false, eq_self] at *)) <;> omega)
                      refine wa_aload_n (i := 0) rfl rfl ?_
                      refine wa_geti ck_12 fl_12_957 ly_84 ?_
                      refine wa_rw (nxe_gi_si hs18) ?_
                      refine wa_iconst (v := 1) (by decide) ?_
                      refine wa_isub ?_
                      refine wa_top (fun v19 hv19 => ?_)
                      have tv19 := i_subT hv19
                      clear hv19
                      refine wa_ireturn rfl rfl ?_
                      exact ⟨_, rfl, Fs18, (by ((try simp only [vp_in_iff, Int32.lt_iff_toInt_lt, Int32.le_iff_toInt_le, ← Int32.toInt_inj, Int32.reduceToInt, n_1, n_2, n_8, Int32.toNatClampNeg, Int64.lt_iff_toInt_lt, Int64.le_iff_toInt_le, ← Int64.toInt_inj, Int64.reduceToInt, Int32.toInt_toInt64, lg_cmp_ge, lg_cmp_le, lg_cmp_gt, lg_cmp_lt, lg_cmp_eq, Bool.false_eq_true, Bool.true_eq_false, reduceCtorEq, false_iff, true_iff, iff_true, iff_false, and_true, true_and, and_false, false_and, reduceIte, ite_true, ite_false, eq_self] at *)) <;> omega), (by rw [nxe_gi_si hs18]; first | assumption | (((try simp only [vp_in_iff, Int32.lt_iff_toInt_lt, Int32.le_iff_toInt_le, ← Int32.toInt_inj, Int32.reduceToInt, n_1, n_2, n_8, Int32.toNatClampNeg, Int64.lt_iff_toInt_lt, Int64.le_iff_toInt_le, ← Int64.toInt_inj, Int64.reduceToInt, Int32.toInt_toInt64, lg_cmp_ge, lg_cmp_le, lg_cmp_gt, lg_cmp_lt, lg_cmp_eq, Bool.false_eq_true, Bool.true_eq_false, reduceCtorEq, false_iff, true_iff, iff_true, iff_false, and_true, true_and, and_false, false_and, reduceIte, ite_true, ite_false, eq_self] at *)) <;> omega)), (by rw [nxe_gi_si hs18]; first | assumption | (((try simp only [vp_in_iff, Int32.lt_iff_toInt_lt, Int32.le_iff_toInt_le, ← Int32.toInt_inj, Int32.reduceToInt, n_1, n_2, n_8, Int32.toNatClampNeg, Int64.lt_iff_toInt_lt, Int64.le_iff_toInt_le, ← Int64.toInt_inj, Int64.reduceToInt, Int32.toInt_toInt64, lg_cmp_ge, lg_cmp_le, lg_cmp_gt, lg_cmp_lt, lg_cmp_eq, Bool.false_eq_true, Bool.true_eq_false, reduceCtorEq, false_iff, true_iff, iff_true, iff_false, and_true, true_and, and_false, false_and, reduceIte, ite_true, ite_false, eq_self] at *)) <;> omega)), (by rw [nxe_gi_si hs18]; first | assumption | (((try simp only [vp_in_iff, Int32.lt_iff_toInt_lt, Int32.le_iff_toInt_le, ← Int32.toInt_inj, Int32.reduceToInt, n_1, n_2, n_8, Int32.toNatClampNeg, Int64.lt_iff_toInt_lt, Int64.le_iff_toInt_le, ← Int64.toInt_inj, Int64.reduceToInt, Int32.toInt_toInt64, lg_cmp_ge, lg_cmp_le, lg_cmp_gt, lg_cmp_lt, lg_cmp_eq, Bool.false_eq_true, Bool.true_eq_false, reduceCtorEq, false_iff, true_iff, iff_true, iff_false, and_true, true_and, and_false, false_and, reduceIte, ite_true, ite_false, eq_self] at *)) <;> omega)), Ps18_CHA, Ps18_HDS, Ps18_DV, trivial⟩
                    · have mh13 := nle_mx h13
                      refine wa_aload_n (i := 0) rfl rfl ?_
                      refine wa_getr ck_12 fl_12_317 ly_84 rf_84_125 ?_
                      refine wa_bipush (v := 32) (by decide) ?_
                      refine wa_aload_n (i := 0) rfl rfl ?_
                      refine wa_geti ck_12 fl_12_957 ly_84 ?_
                      refine wa_rw (khi12_1) ?_
                      refine wa_imul ?_
                      refine wa_top (fun v20 hv20 => ?_)
                      have tv20 := i_mulT hv20
                      clear hv20
                      refine wa_iload_n (i := 2) rfl rfl ?_
                      refine wa_iadd ?_
                      refine wa_top (fun v21 hv21 => ?_)
                      have tv21 := i_addT hv21
                      clear hv21
                      refine wa_aload_n (i := 0) rfl rfl ?_
                      refine wa_getr ck_12 fl_12_331 ly_84 rf_84_130 ?_
                      refine wa_iload_n (i := 2) rfl rfl ?_
                      refine wa_iald ly_125 (by ((try simp only [vp_in_iff, Int32.lt_iff_toInt_lt, Int32.le_iff_toInt_le, ← Int32.toInt_inj, Int32.reduceToInt, n_1, n_2, n_8, Int32.toNatClampNeg, Int64.lt_iff_toInt_lt, Int64.le_iff_toInt_le, ← Int64.toInt_inj, Int64.reduceToInt, Int32.toInt_toInt64, lg_cmp_ge, lg_cmp_le, lg_cmp_gt, lg_cmp_lt, lg_cmp_eq, Bool.false_eq_true, Bool.true_eq_false, reduceCtorEq, false_iff, true_iff, iff_true, iff_false, and_true, true_and, and_false, false_and, reduceIte, ite_true, ite_false, eq_self] at *)) <;> omega) ?_
                      refine wa_iast ly_129 (by ((try simp only [vp_in_iff, Int32.lt_iff_toInt_lt, Int32.le_iff_toInt_le, ← Int32.toInt_inj, Int32.reduceToInt, n_1, n_2, n_8, Int32.toNatClampNeg, Int64.lt_iff_toInt_lt, Int64.le_iff_toInt_le, ← Int64.toInt_inj, Int64.reduceToInt, Int32.toInt_toInt64, lg_cmp_ge, lg_cmp_le, lg_cmp_gt, lg_cmp_lt, lg_cmp_eq, Bool.false_eq_true, Bool.true_eq_false, reduceCtorEq, false_iff, true_iff, iff_true, iff_false, and_true, true_and, and_false, false_and, reduceIte, ite_true, ite_false, eq_self] at *)) <;> omega) (fun s22 hs22 => ?_)
                      have Fs22 : Fm [126, 127, 129] [129] σ s22 := by rw [hs22]; exact Fm.si Fs10 rfl
                      have Ps22_DV := dv_w hs22 Ps10_DV (by ((try simp only [vp_in_iff, Int32.lt_iff_toInt_lt, Int32.le_iff_toInt_le, ← Int32.toInt_inj, Int32.reduceToInt, n_1, n_2, n_8, Int32.toNatClampNeg, Int64.lt_iff_toInt_lt, Int64.le_iff_toInt_le, ← Int64.toInt_inj, Int64.reduceToInt, Int32.toInt_toInt64, lg_cmp_ge, lg_cmp_le, lg_cmp_gt, lg_cmp_lt, lg_cmp_eq, Bool.false_eq_true, Bool.true_eq_false, reduceCtorEq, false_iff, true_iff, iff_true, iff_false, and_true, true_and, and_false, false_and, reduceIte, ite_true, ite_false, eq_self] at *)) <;> omega)
                      refine wa_iinc (v := (1)) (lv' := fun y23 => [(2, .int y23), (0, .ref 84), (1, .int v4)]) (by decide) rfl (by decide) (fun _ => rfl) (fun y23 hy23 => ?_)
                      have ty23 := i_addT hy23.symm
                      clear hy23
                      refine wa_goto o_X12_placeOf_141 (by decide) ?_
                      refine wa_pick [1, 2, 0] rfl ?_
                      exact ih11 _ (by ((try simp only [vp_in_iff, Int32.lt_iff_toInt_lt, Int32.le_iff_toInt_le, ← Int32.toInt_inj, Int32.reduceToInt, n_1, n_2, n_8, Int32.toNatClampNeg, Int64.lt_iff_toInt_lt, Int64.le_iff_toInt_le, ← Int64.toInt_inj, Int64.reduceToInt, Int32.toInt_toInt64, lg_cmp_ge, lg_cmp_le, lg_cmp_gt, lg_cmp_lt, lg_cmp_eq, Bool.false_eq_true, Bool.true_eq_false, reduceCtorEq, false_iff, true_iff, iff_true, iff_false, and_true, true_and, and_false, false_and, reduceIte, ite_true, ite_false, eq_self] at *)) <;> omega) _ _ ⟨Fs22, ((nxq_gi_si hs22 (by decide)).trans (khi12_0)), ((nxq_gi_si hs22 (by decide)).trans (khi12_1)), (CHA_of (fun k => nxq_gi_si hs22 (by decide)) (nxq_gi_si hs22 (by decide)) Ps10_CHA), (HDS_of (fun k => nxq_gi_si hs22 (by decide)) (nxq_gi_si hs22 (by decide)) Ps10_HDS), Ps22_DV, (by ((try simp only [vp_in_iff, Int32.lt_iff_toInt_lt, Int32.le_iff_toInt_le, ← Int32.toInt_inj, Int32.reduceToInt, n_1, n_2, n_8, Int32.toNatClampNeg, Int64.lt_iff_toInt_lt, Int64.le_iff_toInt_le, ← Int64.toInt_inj, Int64.reduceToInt, Int32.toInt_toInt64, lg_cmp_ge, lg_cmp_le, lg_cmp_gt, lg_cmp_lt, lg_cmp_eq, Bool.false_eq_true, Bool.true_eq_false, reduceCtorEq, false_iff, true_iff, iff_true, iff_false, and_true, true_and, and_false, false_and, reduceIte, ite_true, ite_false, eq_self] at *)) <;> omega), (by first | exact row_w hs22 (by ((try simp only [vp_in_iff, Int32.lt_iff_toInt_lt, Int32.le_iff_toInt_le, ← Int32.toInt_inj, Int32.reduceToInt, n_1, n_2, n_8, Int32.toNatClampNeg, Int64.lt_iff_toInt_lt, Int64.le_iff_toInt_le, ← Int64.toInt_inj, Int64.reduceToInt, Int32.toInt_toInt64, lg_cmp_ge, lg_cmp_le, lg_cmp_gt, lg_cmp_lt, lg_cmp_eq, Bool.false_eq_true, Bool.true_eq_false, reduceCtorEq, false_iff, true_iff, iff_true, iff_false, and_true, true_and, and_false, false_and, reduceIte, ite_true, ite_false, eq_self] at *)) <;> omega) (by ((try simp only [vp_in_iff, Int32.lt_iff_toInt_lt, Int32.le_iff_toInt_le, ← Int32.toInt_inj, Int32.reduceToInt, n_1, n_2, n_8, Int32.toNatClampNeg, Int64.lt_iff_toInt_lt, Int64.le_iff_toInt_le, ← Int64.toInt_inj, Int64.reduceToInt, Int32.toInt_toInt64, lg_cmp_ge, lg_cmp_le, lg_cmp_gt, lg_cmp_lt, lg_cmp_eq, Bool.false_eq_true, Bool.true_eq_false, reduceCtorEq, false_iff, true_iff, iff_true, iff_false, and_true, true_and, and_false, false_and, reduceIte, ite_true, ite_false, eq_self] at *)) <;> omega) (by ((try simp only [vp_in_iff, Int32.lt_iff_toInt_lt, Int32.le_iff_toInt_le, ← Int32.toInt_inj, Int32.reduceToInt, n_1, n_2, n_8, Int32.toNatClampNeg, Int64.lt_iff_toInt_lt, Int64.le_iff_toInt_le, ← Int64.toInt_inj, Int64.reduceToInt, Int32.toInt_toInt64, lg_cmp_ge, lg_cmp_le, lg_cmp_gt, lg_cmp_lt, lg_cmp_eq, Bool.false_eq_true, Bool.true_eq_false, reduceCtorEq, false_iff, true_iff, iff_true, iff_false, and_true, true_and, and_false, false_and, reduceIte, ite_true, ite_false, eq_self] at *)) <;> omega) (by ((try simp only [vp_in_iff, Int32.lt_iff_toInt_lt, Int32.le_iff_toInt_le, ← Int32.toInt_inj, Int32.reduceToInt, n_1, n_2, n_8, Int32.toNatClampNeg, Int64.lt_iff_toInt_lt, Int64.le_iff_toInt_le, ← Int64.toInt_inj, Int64.reduceToInt, Int32.toInt_toInt64, lg_cmp_ge, lg_cmp_le, lg_cmp_gt, lg_cmp_lt, lg_cmp_eq, Bool.false_eq_true, Bool.true_eq_false, reduceCtorEq, false_iff, true_iff, iff_true, iff_false, and_true, true_and, and_false, false_and, reduceIte, ite_true, ite_false, eq_self] at *)) <;> omega) rfl (by assumption) | (intro k hk; simp only [Int32.reduceToInt] at hk; omega)), trivial⟩ rfl
                exact hi12 _ _ _ ⟨(Fm.rf [126, 127, 129] [129] σ), (rfl), (rfl), P_CHA, P_HDS, P_DV, (by ((try simp only [vp_in_iff, Int32.lt_iff_toInt_lt, Int32.le_iff_toInt_le, ← Int32.toInt_inj, Int32.reduceToInt, n_1, n_2, n_8, Int32.toNatClampNeg, Int64.lt_iff_toInt_lt, Int64.le_iff_toInt_le, ← Int64.toInt_inj, Int64.reduceToInt, Int32.toInt_toInt64, lg_cmp_ge, lg_cmp_le, lg_cmp_gt, lg_cmp_lt, lg_cmp_eq, Bool.false_eq_true, Bool.true_eq_false, reduceCtorEq, false_iff, true_iff, iff_true, iff_false, and_true, true_and, and_false, false_and, reduceIte, ite_true, ite_false, eq_self] at *)) <;> omega), (by first | exact row_w hσ (by ((try simp only [vp_in_iff, Int32.lt_iff_toInt_lt, Int32.le_iff_toInt_le, ← Int32.toInt_inj, Int32.reduceToInt, n_1, n_2, n_8, Int32.toNatClampNeg, Int64.lt_iff_toInt_lt, Int64.le_iff_toInt_le, ← Int64.toInt_inj, Int64.reduceToInt, Int32.toInt_toInt64, lg_cmp_ge, lg_cmp_le, lg_cmp_gt, lg_cmp_lt, lg_cmp_eq, Bool.false_eq_true, Bool.true_eq_false, reduceCtorEq, false_iff, true_iff, iff_true, iff_false, and_true, true_and, and_false, false_and, reduceIte, ite_true, ite_false, eq_self] at *)) <;> omega) (by ((try simp only [vp_in_iff, Int32.lt_iff_toInt_lt, Int32.le_iff_toInt_le, ← Int32.toInt_inj, Int32.reduceToInt, n_1, n_2, n_8, Int32.toNatClampNeg, Int64.lt_iff_toInt_lt, Int64.le_iff_toInt_le, ← Int64.toInt_inj, Int64.reduceToInt, Int32.toInt_toInt64, lg_cmp_ge, lg_cmp_le, lg_cmp_gt, lg_cmp_lt, lg_cmp_eq, Bool.false_eq_true, Bool.true_eq_false, reduceCtorEq, false_iff, true_iff, iff_true, iff_false, and_true, true_and, and_false, false_and, reduceIte, ite_true, ite_false, eq_self] at *)) <;> omega) (by ((try simp only [vp_in_iff, Int32.lt_iff_toInt_lt, Int32.le_iff_toInt_le, ← Int32.toInt_inj, Int32.reduceToInt, n_1, n_2, n_8, Int32.toNatClampNeg, Int64.lt_iff_toInt_lt, Int64.le_iff_toInt_le, ← Int64.toInt_inj, Int64.reduceToInt, Int32.toInt_toInt64, lg_cmp_ge, lg_cmp_le, lg_cmp_gt, lg_cmp_lt, lg_cmp_eq, Bool.false_eq_true, Bool.true_eq_false, reduceCtorEq, false_iff, true_iff, iff_true, iff_false, and_true, true_and, and_false, false_and, reduceIte, ite_true, ite_false, eq_self] at *)) <;> omega) (by ((try simp only [vp_in_iff, Int32.lt_iff_toInt_lt, Int32.le_iff_toInt_le, ← Int32.toInt_inj, Int32.reduceToInt, n_1, n_2, n_8, Int32.toNatClampNeg, Int64.lt_iff_toInt_lt, Int64.le_iff_toInt_le, ← Int64.toInt_inj, Int64.reduceToInt, Int32.toInt_toInt64, lg_cmp_ge, lg_cmp_le, lg_cmp_gt, lg_cmp_lt, lg_cmp_eq, Bool.false_eq_true, Bool.true_eq_false, reduceCtorEq, false_iff, true_iff, iff_true, iff_false, and_true, true_and, and_false, false_and, reduceIte, ite_true, ite_false, eq_self] at *)) <;> omega) rfl (by assumption) | (intro k hk; simp only [Int32.reduceToInt] at hk; omega)), trivial⟩ rfl
              · refine wa_sipush (v := 3000) (by decide) ?_
                refine wa_ireturn rfl rfl ?_
                exact ⟨_, rfl, (Fm.rf [126, 127, 129] [129] σ), (by ((try simp only [vp_in_iff, Int32.lt_iff_toInt_lt, Int32.le_iff_toInt_le, ← Int32.toInt_inj, Int32.reduceToInt, n_1, n_2, n_8, Int32.toNatClampNeg, Int64.lt_iff_toInt_lt, Int64.le_iff_toInt_le, ← Int64.toInt_inj, Int64.reduceToInt, Int32.toInt_toInt64, lg_cmp_ge, lg_cmp_le, lg_cmp_gt, lg_cmp_lt, lg_cmp_eq, Bool.false_eq_true, Bool.true_eq_false, reduceCtorEq, false_iff, true_iff, iff_true, iff_false, and_true, true_and, and_false, false_and, reduceIte, ite_true, ite_false, eq_self] at *)) <;> omega), (by first | assumption | (((try simp only [vp_in_iff, Int32.lt_iff_toInt_lt, Int32.le_iff_toInt_le, ← Int32.toInt_inj, Int32.reduceToInt, n_1, n_2, n_8, Int32.toNatClampNeg, Int64.lt_iff_toInt_lt, Int64.le_iff_toInt_le, ← Int64.toInt_inj, Int64.reduceToInt, Int32.toInt_toInt64, lg_cmp_ge, lg_cmp_le, lg_cmp_gt, lg_cmp_lt, lg_cmp_eq, Bool.false_eq_true, Bool.true_eq_false, reduceCtorEq, false_iff, true_iff, iff_true, iff_false, and_true, true_and, and_false, false_and, reduceIte, ite_true, ite_false, eq_self] at *)) <;> omega)), (by first | assumption | (((try simp only [vp_in_iff, Int32.lt_iff_toInt_lt, Int32.le_iff_toInt_le, ← Int32.toInt_inj, Int32.reduceToInt, n_1, n_2, n_8, Int32.toNatClampNeg, Int64.lt_iff_toInt_lt, Int64.le_iff_toInt_le, ← Int64.toInt_inj, Int64.reduceToInt, Int32.toInt_toInt64, lg_cmp_ge, lg_cmp_le, lg_cmp_gt, lg_cmp_lt, lg_cmp_eq, Bool.false_eq_true, Bool.true_eq_false, reduceCtorEq, false_iff, true_iff, iff_true, iff_false, and_true, true_and, and_false, false_and, reduceIte, ite_true, ite_false, eq_self] at *)) <;> omega)), (by first | assumption | (((try simp only [vp_in_iff, Int32.lt_iff_toInt_lt, Int32.le_iff_toInt_le, ← Int32.toInt_inj, Int32.reduceToInt, n_1, n_2, n_8, Int32.toNatClampNeg, Int64.lt_iff_toInt_lt, Int64.le_iff_toInt_le, ← Int64.toInt_inj, Int64.reduceToInt, Int32.toInt_toInt64, lg_cmp_ge, lg_cmp_le, lg_cmp_gt, lg_cmp_lt, lg_cmp_eq, Bool.false_eq_true, Bool.true_eq_false, reduceCtorEq, false_iff, true_iff, iff_true, iff_false, and_true, true_and, and_false, false_and, reduceIte, ite_true, ite_false, eq_self] at *)) <;> omega)), P_CHA, P_HDS, P_DV, trivial⟩
            · refine wa_iconst (v := 1) (by decide) ?_
              refine wa_istore_nD (lv' := [(3, .int (bI true)), (0, .ref 84), (1, .int v4), (2, .int l2)]) (i := 3) rfl (by decide) rfl ?_
              refine wa_iconst (v := 0) (by decide) ?_
              refine wa_istoreD (lv' := [(4, .int 0), (3, .int (bI true)), (0, .ref 84), (1, .int v4), (2, .int l2)]) (by decide) rfl ?_
              refine wa_pick [2, 3, 4, 1, 0] rfl ?_
              have hi25 : ∀ (n9_62 : Nat) (l3 : Bool) (l4 : Int32), ((0 ≤ l4.toInt) ∧ (True)) → (2147483647 - l4.toInt).toNat = n9_62 → WA G M_X12_placeOf (ZM G M_X12_placeOf d (fun r σ' => ∃ x : Int32, r = some (.int x) ∧ Fm [126, 127, 129] [129] σ σ' ∧ (0 ≤ x.toInt ∧ x.toInt ≤ 3000) ∧ ((gi σ 84 129).toInt ≤ (gi σ' 84 129).toInt) ∧ (x.toInt < (gi σ' 84 129).toInt ∨ (x.toInt = 3000 ∧ 3000 ≤ (gi σ' 84 129).toInt)) ∧ (0 ≤ (gi σ' 84 129).toInt ∧ (gi σ' 84 129).toInt ≤ 3000) ∧ CHA σ' ∧ HDS σ' ∧ DV σ' ∧ True)) B_X12_placeOf_62 [(0, .ref 84), (1, .int v4), (2, .int l2), (3, .int (bI l3)), (4, .int l4)] [] σ := by
                intro n9_62
                induction n9_62 using Nat.strongRecOn with
                | _ n9_62 ih24 =>
                  intro l3 l4  i9 m9_62
                  obtain ⟨jhi25_0, -⟩ := i9
                  have ul4 := Int32.toInt_lt l4
                  have wl4 := Int32.le_toInt l4
                  refine wa_iload rfl ?_
                  refine wa_aload_n (i := 0) rfl rfl ?_
                  refine wa_geti ck_12 fl_12_928 ly_84 ?_
                  refine wa_icmp_ge o_X12_placeOf_109 (by decide) (fun h26 => ?_) (fun h26 => ?_)
                  · refine wa_iload_n (i := 3) rfl rfl ?_
                    refine wa_if_eq o_X12_placeOf_115 (by decide) (fun h27 => ?_) (fun h27 => ?_)
                    · replace h27 := bI_f (b := l3) (rfl) h27
                      refine wa_aload_n (i := 0) rfl rfl ?_
                      refine wa_getr ck_12 fl_12_328 ly_84 rf_84_128 ?_
                      refine wa_iload_n (i := 2) rfl rfl ?_
                      refine wa_iald ly_126 (by ((try simp only [vp_in_iff, Int32.lt_iff_toInt_lt, Int32.le_iff_toInt_le, ← Int32.toInt_inj, Int32.reduceToInt, n_1, n_2, n_8, Int32.toNatClampNeg, Int64.lt_iff_toInt_lt, Int64.le_iff_toInt_le, ← Int64.toInt_inj, Int64.reduceToInt, Int32.toInt_toInt64, lg_cmp_ge, lg_cmp_le, lg_cmp_gt, lg_cmp_lt, lg_cmp_eq, Bool.false_eq_true, Bool.true_eq_false, reduceCtorEq, false_iff, true_iff, iff_true, iff_false, and_true, true_and, and_false, false_and, reduceIte, ite_true, ite_false, eq_self] at *)) <;> omega) ?_
                      refine wa_top (fun v28 hv28 => ?_)
                      have rv28 := cha_at P_CHA hv28 (by ((try simp only [vp_in_iff, Int32.lt_iff_toInt_lt, Int32.le_iff_toInt_le, ← Int32.toInt_inj, Int32.reduceToInt, n_1, n_2, n_8, Int32.toNatClampNeg, Int64.lt_iff_toInt_lt, Int64.le_iff_toInt_le, ← Int64.toInt_inj, Int64.reduceToInt, Int32.toInt_toInt64, lg_cmp_ge, lg_cmp_le, lg_cmp_gt, lg_cmp_lt, lg_cmp_eq, Bool.false_eq_true, Bool.true_eq_false, reduceCtorEq, false_iff, true_iff, iff_true, iff_false, and_true, true_and, and_false, false_and, reduceIte, ite_true, ite_false, eq_self] at *)) <;> omega)
                      clear hv28
                      refine wa_istore_nD (lv' := [(2, .int v28), (0, .ref 84), (1, .int v4), (3, .int (bI l3)), (4, .int l4)]) (i := 2) rfl (by decide) rfl ?_
                      refine wa_goto o_X12_placeOf_52 (by decide) ?_
                      refine wa_pick [1, 2, 0] rfl ?_
                      exact ih6 _ (by ((try simp only [vp_in_iff, Int32.lt_iff_toInt_lt, Int32.le_iff_toInt_le, ← Int32.toInt_inj, Int32.reduceToInt, n_1, n_2, n_8, Int32.toNatClampNeg, Int64.lt_iff_toInt_lt, Int64.le_iff_toInt_le, ← Int64.toInt_inj, Int64.reduceToInt, Int32.toInt_toInt64, lg_cmp_ge, lg_cmp_le, lg_cmp_gt, lg_cmp_lt, lg_cmp_eq, Bool.false_eq_true, Bool.true_eq_false, reduceCtorEq, false_iff, true_iff, iff_true, iff_false, and_true, true_and, and_false, false_and, reduceIte, ite_true, ite_false, eq_self] at *)) <;> omega) _ ⟨(by ((try simp only [vp_in_iff, Int32.lt_iff_toInt_lt, Int32.le_iff_toInt_le, ← Int32.toInt_inj, Int32.reduceToInt, n_1, n_2, n_8, Int32.toNatClampNeg, Int64.lt_iff_toInt_lt, Int64.le_iff_toInt_le, ← Int64.toInt_inj, Int64.reduceToInt, Int32.toInt_toInt64, lg_cmp_ge, lg_cmp_le, lg_cmp_gt, lg_cmp_lt, lg_cmp_eq, Bool.false_eq_true, Bool.true_eq_false, reduceCtorEq, false_iff, true_iff, iff_true, iff_false, and_true, true_and, and_false, false_and, reduceIte, ite_true, ite_false, eq_self] at *)) <;> omega), (by first | assumption | (((try simp only [vp_in_iff, Int32.lt_iff_toInt_lt, Int32.le_iff_toInt_le, ← Int32.toInt_inj, Int32.reduceToInt, n_1, n_2, n_8, Int32.toNatClampNeg, Int64.lt_iff_toInt_lt, Int64.le_iff_toInt_le, ← Int64.toInt_inj, Int64.reduceToInt, Int32.toInt_toInt64, lg_cmp_ge, lg_cmp_le, lg_cmp_gt, lg_cmp_lt, lg_cmp_eq, Bool.false_eq_true, Bool.true_eq_false, reduceCtorEq, false_iff, true_iff, iff_true, iff_false, and_true, true_and, and_false, false_and, reduceIte, ite_true, ite_false, eq_self] at *)) <;> omega)), trivial⟩ rfl
                    · replace h27 := bI_t (b := l3) (rfl) h27
                      refine wa_iload_n (i := 2) rfl rfl ?_
                      refine wa_ireturn rfl rfl ?_
                      exact ⟨_, rfl, (Fm.rf [126, 127, 129] [129] σ), (by ((try simp only [vp_in_iff, Int32.lt_iff_toInt_lt, Int32.le_iff_toInt_le, ← Int32.toInt_inj, Int32.reduceToInt, n_1, n_2, n_8, Int32.toNatClampNeg, Int64.lt_iff_toInt_lt, Int64.le_iff_toInt_le, ← Int64.toInt_inj, Int64.reduceToInt, Int32.toInt_toInt64, lg_cmp_ge, lg_cmp_le, lg_cmp_gt, lg_cmp_lt, lg_cmp_eq, Bool.false_eq_true, Bool.true_eq_false, reduceCtorEq, false_iff, true_iff, iff_true, iff_false, and_true, true_and, and_false, false_and, reduceIte, ite_true, ite_false, eq_self] at *)) <;> omega), (by first | assumption | (((try simp only [vp_in_iff, Int32.lt_iff_toInt_lt, Int32.le_iff_toInt_le, ← Int32.toInt_inj, Int32.reduceToInt, n_1, n_2, n_8, Int32.toNatClampNeg, Int64.lt_iff_toInt_lt, Int64.le_iff_toInt_le, ← Int64.toInt_inj, Int64.reduceToInt, Int32.toInt_toInt64, lg_cmp_ge, lg_cmp_le, lg_cmp_gt, lg_cmp_lt, lg_cmp_eq, Bool.false_eq_true, Bool.true_eq_false, reduceCtorEq, false_iff, true_iff, iff_true, iff_false, and_true, true_and, and_false, false_and, reduceIte, ite_true, ite_false, eq_self] at *)) <;> omega)), (by first | assumption | (((try simp only [vp_in_iff, Int32.lt_iff_toInt_lt, Int32.le_iff_toInt_le, ← Int32.toInt_inj, Int32.reduceToInt, n_1, n_2, n_8, Int32.toNatClampNeg, Int64.lt_iff_toInt_lt, Int64.le_iff_toInt_le, ← Int64.toInt_inj, Int64.reduceToInt, Int32.toInt_toInt64, lg_cmp_ge, lg_cmp_le, lg_cmp_gt, lg_cmp_lt, lg_cmp_eq, Bool.false_eq_true, Bool.true_eq_false, reduceCtorEq, false_iff, true_iff, iff_true, iff_false, and_true, true_and, and_false, false_and, reduceIte, ite_true, ite_false, eq_self] at *)) <;> omega)), (by first | assumption | (((try simp only [vp_in_iff, Int32.lt_iff_toInt_lt, Int32.le_iff_toInt_le, ← Int32.toInt_inj, Int32.reduceToInt, n_1, n_2, n_8, Int32.toNatClampNeg, Int64.lt_iff_toInt_lt, Int64.le_iff_toInt_le, ← Int64.toInt_inj, Int64.reduceToInt, Int32.toInt_toInt64, lg_cmp_ge, lg_cmp_le, lg_cmp_gt, lg_cmp_lt, lg_cmp_eq, Bool.false_eq_true, Bool.true_eq_false, reduceCtorEq, false_iff, true_iff, iff_true, iff_false, and_true, true_and, and_false, false_and, reduceIte, ite_true, ite_false, eq_self] at *)) <;> omega)), P_CHA, P_HDS, P_DV, trivial⟩
                  · have mh26 := nle_mx h26
                    refine wa_iload_n (i := 3) rfl rfl ?_
                    refine wa_if_eq o_X12_placeOf_109 (by decide) (fun h29 => ?_) (fun h29 => ?_)
                    · replace h29 := bI_f (b := l3) (rfl) h29
                      refine wa_iload_n (i := 3) rfl rfl ?_
                      refine wa_if_eq o_X12_placeOf_115 (by decide) (fun h30 => ?_) (fun h30 => ?_)
                      · replace h30 := bI_f (b := l3) (rfl) h30
                        refine wa_aload_n (i := 0) rfl rfl ?_
                        refine wa_getr ck_12 fl_12_328 ly_84 rf_84_128 ?_
                        refine wa_iload_n (i := 2) rfl rfl ?_
                        refine wa_iald ly_126 (by ((try simp only [vp_in_iff, Int32.lt_iff_toInt_lt, Int32.le_iff_toInt_le, ← Int32.toInt_inj, Int32.reduceToInt, n_1, n_2, n_8, Int32.toNatClampNeg, Int64.lt_iff_toInt_lt, Int64.le_iff_toInt_le, ← Int64.toInt_inj, Int64.reduceToInt, Int32.toInt_toInt64, lg_cmp_ge, lg_cmp_le, lg_cmp_gt, lg_cmp_lt, lg_cmp_eq, Bool.false_eq_true, Bool.true_eq_false, reduceCtorEq, false_iff, true_iff, iff_true, iff_false, and_true, true_and, and_false, false_and, reduceIte, ite_true, ite_false, eq_self] at *)) <;> omega) ?_
                        refine wa_top (fun v31 hv31 => ?_)
                        have rv31 := cha_at P_CHA hv31 (by ((try simp only [vp_in_iff, Int32.lt_iff_toInt_lt, Int32.le_iff_toInt_le, ← Int32.toInt_inj, Int32.reduceToInt, n_1, n_2, n_8, Int32.toNatClampNeg, Int64.lt_iff_toInt_lt, Int64.le_iff_toInt_le, ← Int64.toInt_inj, Int64.reduceToInt, Int32.toInt_toInt64, lg_cmp_ge, lg_cmp_le, lg_cmp_gt, lg_cmp_lt, lg_cmp_eq, Bool.false_eq_true, Bool.true_eq_false, reduceCtorEq, false_iff, true_iff, iff_true, iff_false, and_true, true_and, and_false, false_and, reduceIte, ite_true, ite_false, eq_self] at *)) <;> omega)
                        clear hv31
                        refine wa_istore_nD (lv' := [(2, .int v31), (0, .ref 84), (1, .int v4), (3, .int (bI l3)), (4, .int l4)]) (i := 2) rfl (by decide) rfl ?_
                        refine wa_goto o_X12_placeOf_52 (by decide) ?_
                        refine wa_pick [1, 2, 0] rfl ?_
                        exact ih6 _ (by ((try simp only [vp_in_iff, Int32.lt_iff_toInt_lt, Int32.le_iff_toInt_le, ← Int32.toInt_inj, Int32.reduceToInt, n_1, n_2, n_8, Int32.toNatClampNeg, Int64.lt_iff_toInt_lt, Int64.le_iff_toInt_le, ← Int64.toInt_inj, Int64.reduceToInt, Int32.toInt_toInt64, lg_cmp_ge, lg_cmp_le, lg_cmp_gt, lg_cmp_lt, lg_cmp_eq, Bool.false_eq_true, Bool.true_eq_false, reduceCtorEq, false_iff, true_iff, iff_true, iff_false, and_true, true_and, and_false, false_and, reduceIte, ite_true, ite_false, eq_self] at *)) <;> omega) _ ⟨(by ((try simp only [vp_in_iff, Int32.lt_iff_toInt_lt, Int32.le_iff_toInt_le, ← Int32.toInt_inj, Int32.reduceToInt, n_1, n_2, n_8, Int32.toNatClampNeg, Int64.lt_iff_toInt_lt, Int64.le_iff_toInt_le, ← Int64.toInt_inj, Int64.reduceToInt, Int32.toInt_toInt64, lg_cmp_ge, lg_cmp_le, lg_cmp_gt, lg_cmp_lt, lg_cmp_eq, Bool.false_eq_true, Bool.true_eq_false, reduceCtorEq, false_iff, true_iff, iff_true, iff_false, and_true, true_and, and_false, false_and, reduceIte, ite_true, ite_false, eq_self] at *)) <;> omega), (by first | assumption | (((try simp only [vp_in_iff, Int32.lt_iff_toInt_lt, Int32.le_iff_toInt_le, ← Int32.toInt_inj, Int32.reduceToInt, n_1, n_2, n_8, Int32.toNatClampNeg, Int64.lt_iff_toInt_lt, Int64.le_iff_toInt_le, ← Int64.toInt_inj, Int64.reduceToInt, Int32.toInt_toInt64, lg_cmp_ge, lg_cmp_le, lg_cmp_gt, lg_cmp_lt, lg_cmp_eq, Bool.false_eq_true, Bool.true_eq_false, reduceCtorEq, false_iff, true_iff, iff_true, iff_false, and_true, true_and, and_false, false_and, reduceIte, ite_true, ite_false, eq_self] at *)) <;> omega)), trivial⟩ rfl
                      · replace h30 := bI_t (b := l3) (rfl) h30
                        refine wa_iload_n (i := 2) rfl rfl ?_
                        refine wa_ireturn rfl rfl ?_
                        exact ⟨_, rfl, (Fm.rf [126, 127, 129] [129] σ), (by ((try simp only [vp_in_iff, Int32.lt_iff_toInt_lt, Int32.le_iff_toInt_le, ← Int32.toInt_inj, Int32.reduceToInt, n_1, n_2, n_8, Int32.toNatClampNeg, Int64.lt_iff_toInt_lt, Int64.le_iff_toInt_le, ← Int64.toInt_inj, Int64.reduceToInt, Int32.toInt_toInt64, lg_cmp_ge, lg_cmp_le, lg_cmp_gt, lg_cmp_lt, lg_cmp_eq, Bool.false_eq_true, Bool.true_eq_false, reduceCtorEq, false_iff, true_iff, iff_true, iff_false, and_true, true_and, and_false, false_and, reduceIte, ite_true, ite_false, eq_self] at *)) <;> omega), (by first | assumption | (((try simp only [vp_in_iff, Int32.lt_iff_toInt_lt, Int32.le_iff_toInt_le, ← Int32.toInt_inj, Int32.reduceToInt, n_1, n_2, n_8, Int32.toNatClampNeg, Int64.lt_iff_toInt_lt, Int64.le_iff_toInt_le, ← Int64.toInt_inj, Int64.reduceToInt, Int32.toInt_toInt64, lg_cmp_ge, lg_cmp_le, lg_cmp_gt, lg_cmp_lt, lg_cmp_eq, Bool.false_eq_true, Bool.true_eq_false, reduceCtorEq, false_iff, true_iff, iff_true, iff_false, and_true, true_and, and_false, false_and, reduceIte, ite_true, ite_false, eq_self] at *)) <;> omega)), (by first | assumption | (((try simp only [vp_in_iff, Int32.lt_iff_toInt_lt, Int32.le_iff_toInt_le, ← Int32.toInt_inj, Int32.reduceToInt, n_1, n_2, n_8, Int32.toNatClampNeg, Int64.lt_iff_toInt_lt, Int64.le_iff_toInt_le, ← Int64.toInt_inj, Int64.reduceToInt, Int32.toInt_toInt64, lg_cmp_ge, lg_cmp_le, lg_cmp_gt, lg_cmp_lt, lg_cmp_eq, Bool.false_eq_true, Bool.true_eq_false, reduceCtorEq, false_iff, true_iff, iff_true, iff_false, and_true, true_and, and_false, false_and, reduceIte, ite_true, ite_false, eq_self] at *)) <;> omega)), (by first | assumption | (((try simp only [vp_in_iff, Int32.lt_iff_toInt_lt, Int32.le_iff_toInt_le, ← Int32.toInt_inj, Int32.reduceToInt, n_1, n_2, n_8, Int32.toNatClampNeg, Int64.lt_iff_toInt_lt, Int64.le_iff_toInt_le, ← Int64.toInt_inj, Int64.reduceToInt, Int32.toInt_toInt64, lg_cmp_ge, lg_cmp_le, lg_cmp_gt, lg_cmp_lt, lg_cmp_eq, Bool.false_eq_true, Bool.true_eq_false, reduceCtorEq, false_iff, true_iff, iff_true, iff_false, and_true, true_and, and_false, false_and, reduceIte, ite_true, ite_false, eq_self] at *)) <;> omega)), P_CHA, P_HDS, P_DV, trivial⟩
                    · replace h29 := bI_t (b := l3) (rfl) h29
                      refine wa_aload_n (i := 0) rfl rfl ?_
                      refine wa_getr ck_12 fl_12_317 ly_84 rf_84_125 ?_
                      refine wa_bipush (v := 32) (by decide) ?_
                      refine wa_iload_n (i := 2) rfl rfl ?_
                      refine wa_imul ?_
                      refine wa_top (fun v32 hv32 => ?_)
                      have tv32 := i_mulT hv32
                      clear hv32
                      refine wa_iload rfl ?_
                      refine wa_iadd ?_
                      refine wa_top (fun v33 hv33 => ?_)
                      have tv33 := i_addT hv33
                      clear hv33
                      refine wa_iald ly_129 (by ((try simp only [vp_in_iff, Int32.lt_iff_toInt_lt, Int32.le_iff_toInt_le, ← Int32.toInt_inj, Int32.reduceToInt, n_1, n_2, n_8, Int32.toNatClampNeg, Int64.lt_iff_toInt_lt, Int64.le_iff_toInt_le, ← Int64.toInt_inj, Int64.reduceToInt, Int32.toInt_toInt64, lg_cmp_ge, lg_cmp_le, lg_cmp_gt, lg_cmp_lt, lg_cmp_eq, Bool.false_eq_true, Bool.true_eq_false, reduceCtorEq, false_iff, true_iff, iff_true, iff_false, and_true, true_and, and_false, false_and, reduceIte, ite_true, ite_false, eq_self] at *)) <;> omega) ?_
                      refine wa_aload_n (i := 0) rfl rfl ?_
                      refine wa_getr ck_12 fl_12_331 ly_84 rf_84_130 ?_
                      refine wa_iload rfl ?_
                      refine wa_iald ly_125 (by ((try simp only [vp_in_iff, Int32.lt_iff_toInt_lt, Int32.le_iff_toInt_le, ← Int32.toInt_inj, Int32.reduceToInt, n_1, n_2, n_8, Int32.toNatClampNeg, Int64.lt_iff_toInt_lt, Int64.le_iff_toInt_le, ← Int64.toInt_inj, Int64.reduceToInt, Int32.toInt_toInt64, lg_cmp_ge, lg_cmp_le, lg_cmp_gt, lg_cmp_lt, lg_cmp_eq, Bool.false_eq_true, Bool.true_eq_false, reduceCtorEq, false_iff, true_iff, iff_true, iff_false, and_true, true_and, and_false, false_and, reduceIte, ite_true, ite_false, eq_self] at *)) <;> omega) ?_
                      refine wa_icmp_ne o_X12_placeOf_101 (by decide) (fun h34 => ?_) (fun h34 => ?_)
                      · refine wa_iconst (v := 0) (by decide) ?_
                        refine wa_istore_nD (lv' := [(3, .int (bI false)), (0, .ref 84), (1, .int v4), (2, .int l2), (4, .int l4)]) (i := 3) rfl (by decide) rfl ?_
                        refine wa_iinc (v := (1)) (lv' := fun y35 => [(4, .int y35), (3, .int (bI false)), (0, .ref 84), (1, .int v4), (2, .int l2)]) (by decide) rfl (by decide) (fun _ => rfl) (fun y35 hy35 => ?_)
                        have ty35 := i_addT hy35.symm
                        clear hy35
                        refine wa_goto o_X12_placeOf_62 (by decide) ?_
                        refine wa_pick [2, 3, 4, 1, 0] rfl ?_
                        exact ih24 _ (by ((try simp only [vp_in_iff, Int32.lt_iff_toInt_lt, Int32.le_iff_toInt_le, ← Int32.toInt_inj, Int32.reduceToInt, n_1, n_2, n_8, Int32.toNatClampNeg, Int64.lt_iff_toInt_lt, Int64.le_iff_toInt_le, ← Int64.toInt_inj, Int64.reduceToInt, Int32.toInt_toInt64, lg_cmp_ge, lg_cmp_le, lg_cmp_gt, lg_cmp_lt, lg_cmp_eq, Bool.false_eq_true, Bool.true_eq_false, reduceCtorEq, false_iff, true_iff, iff_true, iff_false, and_true, true_and, and_false, false_and, reduceIte, ite_true, ite_false, eq_self] at *)) <;> omega) _ _ ⟨(by ((try simp only [vp_in_iff, Int32.lt_iff_toInt_lt, Int32.le_iff_toInt_le, ← Int32.toInt_inj, Int32.reduceToInt, n_1, n_2, n_8, Int32.toNatClampNeg, Int64.lt_iff_toInt_lt, Int64.le_iff_toInt_le, ← Int64.toInt_inj, Int64.reduceToInt, Int32.toInt_toInt64, lg_cmp_ge, lg_cmp_le, lg_cmp_gt, lg_cmp_lt, lg_cmp_eq, Bool.false_eq_true, Bool.true_eq_false, reduceCtorEq, false_iff, true_iff, iff_true, iff_false, and_true, true_and, and_false, false_and, reduceIte, ite_true, ite_false, eq_self] at *)) <;> omega), trivial⟩ rfl
                      · refine wa_iconst (v := 1) (by decide) ?_
                        refine wa_goto o_X12_placeOf_102 (by decide) ?_
                        refine wa_istore_nD (lv' := [(3, .int (bI true)), (0, .ref 84), (1, .int v4), (2, .int l2), (4, .int l4)]) (i := 3) rfl (by decide) rfl ?_
                        refine wa_iinc (v := (1)) (lv' := fun y36 => [(4, .int y36), (3, .int (bI true)), (0, .ref 84), (1, .int v4), (2, .int l2)]) (by decide) rfl (by decide) (fun _ => rfl) (fun y36 hy36 => ?_)
                        have ty36 := i_addT hy36.symm
                        clear hy36
                        refine wa_goto o_X12_placeOf_62 (by decide) ?_
                        refine wa_pick [2, 3, 4, 1, 0] rfl ?_
                        exact ih24 _ (by ((try simp only [vp_in_iff, Int32.lt_iff_toInt_lt, Int32.le_iff_toInt_le, ← Int32.toInt_inj, Int32.reduceToInt, n_1, n_2, n_8, Int32.toNatClampNeg, Int64.lt_iff_toInt_lt, Int64.le_iff_toInt_le, ← Int64.toInt_inj, Int64.reduceToInt, Int32.toInt_toInt64, lg_cmp_ge, lg_cmp_le, lg_cmp_gt, lg_cmp_lt, lg_cmp_eq, Bool.false_eq_true, Bool.true_eq_false, reduceCtorEq, false_iff, true_iff, iff_true, iff_false, and_true, true_and, and_false, false_and, reduceIte, ite_true, ite_false, eq_self] at *)) <;> omega) _ _ ⟨(by ((try simp only [vp_in_iff, Int32.lt_iff_toInt_lt, Int32.le_iff_toInt_le, ← Int32.toInt_inj, Int32.reduceToInt, n_1, n_2, n_8, Int32.toNatClampNeg, Int64.lt_iff_toInt_lt, Int64.le_iff_toInt_le, ← Int64.toInt_inj, Int64.reduceToInt, Int32.toInt_toInt64, lg_cmp_ge, lg_cmp_le, lg_cmp_gt, lg_cmp_lt, lg_cmp_eq, Bool.false_eq_true, Bool.true_eq_false, reduceCtorEq, false_iff, true_iff, iff_true, iff_false, and_true, true_and, and_false, false_and, reduceIte, ite_true, ite_false, eq_self] at *)) <;> omega), trivial⟩ rfl
              exact hi25 _ _ _ ⟨(by ((try simp only [vp_in_iff, Int32.lt_iff_toInt_lt, Int32.le_iff_toInt_le, ← Int32.toInt_inj, Int32.reduceToInt, n_1, n_2, n_8, Int32.toNatClampNeg, Int64.lt_iff_toInt_lt, Int64.le_iff_toInt_le, ← Int64.toInt_inj, Int64.reduceToInt, Int32.toInt_toInt64, lg_cmp_ge, lg_cmp_le, lg_cmp_gt, lg_cmp_lt, lg_cmp_eq, Bool.false_eq_true, Bool.true_eq_false, reduceCtorEq, false_iff, true_iff, iff_true, iff_false, and_true, true_and, and_false, false_and, reduceIte, ite_true, ite_false, eq_self] at *)) <;> omega), trivial⟩ rfl
        exact hi7 _ _ ⟨(by ((try simp only [vp_in_iff, Int32.lt_iff_toInt_lt, Int32.le_iff_toInt_le, ← Int32.toInt_inj, Int32.reduceToInt, n_1, n_2, n_8, Int32.toNatClampNeg, Int64.lt_iff_toInt_lt, Int64.le_iff_toInt_le, ← Int64.toInt_inj, Int64.reduceToInt, Int32.toInt_toInt64, lg_cmp_ge, lg_cmp_le, lg_cmp_gt, lg_cmp_lt, lg_cmp_eq, Bool.false_eq_true, Bool.true_eq_false, reduceCtorEq, false_iff, true_iff, iff_true, iff_false, and_true, true_and, and_false, false_and, reduceIte, ite_true, ite_false, eq_self] at *)) <;> omega), (by first | assumption | (((try simp only [vp_in_iff, Int32.lt_iff_toInt_lt, Int32.le_iff_toInt_le, ← Int32.toInt_inj, Int32.reduceToInt, n_1, n_2, n_8, Int32.toNatClampNeg, Int64.lt_iff_toInt_lt, Int64.le_iff_toInt_le, ← Int64.toInt_inj, Int64.reduceToInt, Int32.toInt_toInt64, lg_cmp_ge, lg_cmp_le, lg_cmp_gt, lg_cmp_lt, lg_cmp_eq, Bool.false_eq_true, Bool.true_eq_false, reduceCtorEq, false_iff, true_iff, iff_true, iff_false, and_true, true_and, and_false, false_and, reduceIte, ite_true, ite_false, eq_self] at *)) <;> omega)), trivial⟩ rfl
      · have mh3 := nle_mx h3
        refine wa_iload_n (i := 1) rfl rfl ?_
        refine wa_aload_n (i := 0) rfl rfl ?_
        refine wa_getr ck_12 fl_12_331 ly_84 rf_84_130 ?_
        refine wa_iload_n (i := 2) rfl rfl ?_
        refine wa_iald ly_125 (by ((try simp only [vp_in_iff, Int32.lt_iff_toInt_lt, Int32.le_iff_toInt_le, ← Int32.toInt_inj, Int32.reduceToInt, n_1, n_2, n_8, Int32.toNatClampNeg, Int64.lt_iff_toInt_lt, Int64.le_iff_toInt_le, ← Int64.toInt_inj, Int64.reduceToInt, Int32.toInt_toInt64, lg_cmp_ge, lg_cmp_le, lg_cmp_gt, lg_cmp_lt, lg_cmp_eq, Bool.false_eq_true, Bool.true_eq_false, reduceCtorEq, false_iff, true_iff, iff_true, iff_false, and_true, true_and, and_false, false_and, reduceIte, ite_true, ite_false, eq_self] at *)) <;> omega) ?_
        refine wa_ixor ?_
        refine wa_top (fun v37 hv37 => ?_)
        clear hv37
        refine wa_ldcw (v := (-1640531535)) (allW_in (kT_12 _ (List.mem_of_getElem? (i := 92) rfl)) rfl) ?_
        refine wa_imul ?_
        refine wa_top (fun v38 hv38 => ?_)
        have tv38 := i_mulT hv38
        clear hv38
        refine wa_istore_nD (lv' := [(1, .int v38), (0, .ref 84), (2, .int l2)]) (i := 1) rfl (by decide) rfl ?_
        refine wa_iload_n (i := 1) rfl rfl ?_
        refine wa_iload_n (i := 1) rfl rfl ?_
        refine wa_bipush (v := 15) (by decide) ?_
        refine wa_iushr ?_
        refine wa_top (fun v39 hv39 => ?_)
        clear hv39
        refine wa_ixor ?_
        refine wa_top (fun v40 hv40 => ?_)
        clear hv40
        refine wa_istore_nD (lv' := [(1, .int v40), (0, .ref 84), (2, .int l2)]) (i := 1) rfl (by decide) rfl ?_
        refine wa_iinc (v := (1)) (lv' := fun y41 => [(2, .int y41), (1, .int v40), (0, .ref 84)]) (by decide) rfl (by decide) (fun _ => rfl) (fun y41 hy41 => ?_)
        have ty41 := i_addT hy41.symm
        clear hy41
        refine wa_goto o_X12_placeOf_5 (by decide) ?_
        refine wa_pick [2, 1, 0] rfl ?_
        exact ih1 _ (by ((try simp only [vp_in_iff, Int32.lt_iff_toInt_lt, Int32.le_iff_toInt_le, ← Int32.toInt_inj, Int32.reduceToInt, n_1, n_2, n_8, Int32.toNatClampNeg, Int64.lt_iff_toInt_lt, Int64.le_iff_toInt_le, ← Int64.toInt_inj, Int64.reduceToInt, Int32.toInt_toInt64, lg_cmp_ge, lg_cmp_le, lg_cmp_gt, lg_cmp_lt, lg_cmp_eq, Bool.false_eq_true, Bool.true_eq_false, reduceCtorEq, false_iff, true_iff, iff_true, iff_false, and_true, true_and, and_false, false_and, reduceIte, ite_true, ite_false, eq_self] at *)) <;> omega) _ _ ⟨(by ((try simp only [vp_in_iff, Int32.lt_iff_toInt_lt, Int32.le_iff_toInt_le, ← Int32.toInt_inj, Int32.reduceToInt, n_1, n_2, n_8, Int32.toNatClampNeg, Int64.lt_iff_toInt_lt, Int64.le_iff_toInt_le, ← Int64.toInt_inj, Int64.reduceToInt, Int32.toInt_toInt64, lg_cmp_ge, lg_cmp_le, lg_cmp_gt, lg_cmp_lt, lg_cmp_eq, Bool.false_eq_true, Bool.true_eq_false, reduceCtorEq, false_iff, true_iff, iff_true, iff_false, and_true, true_and, and_false, false_and, reduceIte, ite_true, ite_false, eq_self] at *)) <;> omega), trivial⟩ rfl
  exact hi2 _ _ _ ⟨(by ((try simp only [vp_in_iff, Int32.lt_iff_toInt_lt, Int32.le_iff_toInt_le, ← Int32.toInt_inj, Int32.reduceToInt, n_1, n_2, n_8, Int32.toNatClampNeg, Int64.lt_iff_toInt_lt, Int64.le_iff_toInt_le, ← Int64.toInt_inj, Int64.reduceToInt, Int32.toInt_toInt64, lg_cmp_ge, lg_cmp_le, lg_cmp_gt, lg_cmp_lt, lg_cmp_eq, Bool.false_eq_true, Bool.true_eq_false, reduceCtorEq, false_iff, true_iff, iff_true, iff_false, and_true, true_and, and_false, false_and, reduceIte, ite_true, ite_false, eq_self] at *)) <;> omega), trivial⟩ rfl
set_option maxHeartbeats 4000000 in
theorem sp_X12_halved (G : kG9) {d : Nat} (hd : 0 ≤ d) (σ : St) (a0 : Int32) (a1 : Int32) (a2 : Int32) (p1 : 0 ≤ a0.toInt ∧ a0.toInt < 700) (p2 : (gi σ 135 (a0).toNatClampNeg).toInt ≤ 0 ∨ a1.toInt < 0 ∨ (16 ≤ a1.toInt ∧ a1.toInt ≤ 207)) (r1 : 0 ≤ (gi σ 84 32).toInt ∧ (gi σ 84 32).toInt ≤ 4) (A_135 : AR ap_135 σ 135) (A_137 : AR ap_137 σ 137) : Ct G M_X12_halved d [.ref 84, .int a0, .int a1, .int a2] σ (fun r σ' => ∃ x : Int32, r = some (.int x) ∧ σ = σ' ∧ ((gi σ 135 (a0).toNatClampNeg).toInt ≤ 0 ∨ x.toInt < 0 ∨ (16 ≤ x.toInt ∧ x.toInt ≤ 207)) ∧ True) := by
  refine wa_start (by decide) rfl (Nat.le_of_ble_eq_true rfl) (lv := [(0, .ref 84), (1, .int a0), (2, .int a1), (3, .int a2)]) rfl o_X12_halved_0 rfl ?_
  have ua0 := Int32.toInt_lt a0
  have wa0 := Int32.le_toInt a0
  have ua1 := Int32.toInt_lt a1
  have wa1 := Int32.le_toInt a1
  have ua2 := Int32.toInt_lt a2
  have wa2 := Int32.le_toInt a2
  refine wa_iconst (v := 0) (by decide) ?_
  refine wa_istoreD (lv' := [(4, .int 0), (0, .ref 84), (1, .int a0), (2, .int a1), (3, .int a2)]) (by decide) rfl ?_
  refine wa_aload_n (i := 0) rfl rfl ?_
  refine wa_getr ck_12 fl_12_298 ly_84 rf_84_118 ?_
  refine wa_iload_n (i := 1) rfl rfl ?_
  refine wa_iald ly_135 (by ((try simp only [vp_in_iff, Int32.lt_iff_toInt_lt, Int32.le_iff_toInt_le, ← Int32.toInt_inj, Int32.reduceToInt, n_1, n_2, n_8, Int32.toNatClampNeg, Int64.lt_iff_toInt_lt, Int64.le_iff_toInt_le, ← Int64.toInt_inj, Int64.reduceToInt, Int32.toInt_toInt64, lg_cmp_ge, lg_cmp_le, lg_cmp_gt, lg_cmp_lt, lg_cmp_eq, Bool.false_eq_true, Bool.true_eq_false, reduceCtorEq, false_iff, true_iff, iff_true, iff_false, and_true, true_and, and_false, false_and, reduceIte, ite_true, ite_false, eq_self] at *)) <;> omega) ?_
  refine wa_top (fun v1 hv1 => ?_)
  have rv1 : 0 ≤ v1.toInt ∧ v1.toInt ≤ 12 := by rw [← hv1]; exact ar_at A_135 _
  have qv1 := hv1
  clear hv1
  refine wa_if_le o_X12_halved_23 (by decide) (fun h2 => ?_) (fun h2 => ?_)
  · refine wa_iconst (v := 0) (by decide) ?_
    refine wa_istoreD (lv' := [(5, .int 0), (4, .int 0), (0, .ref 84), (1, .int a0), (2, .int a1), (3, .int a2)]) (by decide) rfl ?_
    refine wa_iconst (v := 0) (by decide) ?_
    refine wa_istoreD (lv' := [(6, .int 0), (5, .int 0), (4, .int 0), (0, .ref 84), (1, .int a0), (2, .int a1), (3, .int a2)]) (by decide) rfl ?_
    refine wa_pick [3, 4, 5, 6, 2, 1, 0] rfl ?_
    have hi4 : ∀ (n9_29 : Nat) (l4 : Int32) (l6 : Int32), ((0 ≤ l6.toInt) ∧ (True)) → (2147483647 - l6.toInt).toNat = n9_29 → WA G M_X12_halved (ZM G M_X12_halved d (fun r σ' => ∃ x : Int32, r = some (.int x) ∧ σ = σ' ∧ ((gi σ 135 (a0).toNatClampNeg).toInt ≤ 0 ∨ x.toInt < 0 ∨ (16 ≤ x.toInt ∧ x.toInt ≤ 207)) ∧ True)) B_X12_halved_29 [(0, .ref 84), (1, .int a0), (2, .int a1), (3, .int a2), (4, .int l4), (5, .int 0), (6, .int l6)] [] σ := by
      intro n9_29
      induction n9_29 using Nat.strongRecOn with
      | _ n9_29 ih3 =>
        intro l4 l6  i9 m9_29
        obtain ⟨jhi4_0, -⟩ := i9
        have ul4 := Int32.toInt_lt l4
        have wl4 := Int32.le_toInt l4
        have ul6 := Int32.toInt_lt l6
        have wl6 := Int32.le_toInt l6
        refine wa_iload rfl ?_
        refine wa_aload_n (i := 0) rfl rfl ?_
        refine wa_geti ck_12 fl_12_815 ly_84 ?_
        refine wa_icmp_ge o_X12_halved_92 (by decide) (fun h5 => ?_) (fun h5 => ?_)
        · refine wa_aload_n (i := 0) rfl rfl ?_
          refine wa_getr ck_12 fl_12_298 ly_84 rf_84_118 ?_
          refine wa_iload_n (i := 1) rfl rfl ?_
          refine wa_iald ly_135 (by ((try simp only [vp_in_iff, Int32.lt_iff_toInt_lt, Int32.le_iff_toInt_le, ← Int32.toInt_inj, Int32.reduceToInt, n_1, n_2, n_8, Int32.toNatClampNeg, Int64.lt_iff_toInt_lt, Int64.le_iff_toInt_le, ← Int64.toInt_inj, Int64.reduceToInt, Int32.toInt_toInt64, lg_cmp_ge, lg_cmp_le, lg_cmp_gt, lg_cmp_lt, lg_cmp_eq, Bool.false_eq_true, Bool.true_eq_false, reduceCtorEq, false_iff, true_iff, iff_true, iff_false, and_true, true_and, and_false, false_and, reduceIte, ite_true, ite_false, eq_self] at *)) <;> omega) ?_
          refine wa_top (fun v6 hv6 => ?_)
          have rv6 : 0 ≤ v6.toInt ∧ v6.toInt ≤ 12 := by rw [← hv6]; exact ar_at A_135 _
          have qv6 := hv6
          clear hv6
          refine wa_if_ne o_X12_halved_108 (by decide) (fun h7 => ?_) (fun h7 => ?_)
          · refine wa_iload_n (i := 2) rfl rfl ?_
            refine wa_if_ge o_X12_halved_114 (by decide) (fun h8 => ?_) (fun h8 => ?_)
            · refine wa_iload_n (i := 2) rfl rfl ?_
              refine wa_bipush (v := 16) (by decide) ?_
              refine wa_irem (by ((try simp only [vp_in_iff, Int32.lt_iff_toInt_lt, Int32.le_iff_toInt_le, ← Int32.toInt_inj, Int32.reduceToInt, n_1, n_2, n_8, Int32.toNatClampNeg, Int64.lt_iff_toInt_lt, Int64.le_iff_toInt_le, ← Int64.toInt_inj, Int64.reduceToInt, Int32.toInt_toInt64, lg_cmp_ge, lg_cmp_le, lg_cmp_gt, lg_cmp_lt, lg_cmp_eq, Bool.false_eq_true, Bool.true_eq_false, reduceCtorEq, false_iff, true_iff, iff_true, iff_false, and_true, true_and, and_false, false_and, reduceIte, ite_true, ite_false, eq_self] at *)) <;> omega) ?_
              refine wa_top (fun v9 hv9 => ?_)
              first | (refine i_remK hv9 ?_ ?_ (fun tv9 => ?_); (((try simp only [vp_in_iff, Int32.lt_iff_toInt_lt, Int32.le_iff_toInt_le, ← Int32.toInt_inj, Int32.reduceToInt, n_1, n_2, n_8, Int32.toNatClampNeg, Int64.lt_iff_toInt_lt, Int64.le_iff_toInt_le, ← Int64.toInt_inj, Int64.reduceToInt, Int32.toInt_toInt64, lg_cmp_ge, lg_cmp_le, lg_cmp_gt, lg_cmp_lt, lg_cmp_eq, Bool.false_eq_true, Bool.true_eq_false, reduceCtorEq, false_iff, true_iff, iff_true, iff_false, and_true, true_and, and_false, false_and, reduceIte, ite_true, ite_false, eq_self] at *)) <;> omega); (((try simp only [vp_in_iff, Int32.lt_iff_toInt_lt, Int32.le_iff_toInt_le, ← Int32.toInt_inj, Int32.reduceToInt, n_1, n_2, n_8, Int32.toNatClampNeg, Int64.lt_iff_toInt_lt, Int64.le_iff_toInt_le, ← Int64.toInt_inj, Int64.reduceToInt, Int32.toInt_toInt64, lg_cmp_ge, lg_cmp_le, lg_cmp_gt, lg_cmp_lt, lg_cmp_eq, Bool.false_eq_true, Bool.true_eq_false, reduceCtorEq, false_iff, true_iff, iff_true, iff_false, and_true, true_and, and_false, false_and, reduceIte, ite_true, ite_false, eq_self] at *)) <;> omega)) | (refine i_remK2 hv9 ?_ (fun tv9 => ?_); (((try simp only [vp_in_iff, Int32.lt_iff_toInt_lt, Int32.le_iff_toInt_le, ← Int32.toInt_inj, Int32.reduceToInt, n_1, n_2, n_8, Int32.toNatClampNeg, Int64.lt_iff_toInt_lt, Int64.le_iff_toInt_le, ← Int64.toInt_inj, Int64.reduceToInt, Int32.toInt_toInt64, lg_cmp_ge, lg_cmp_le, lg_cmp_gt, lg_cmp_lt, lg_cmp_eq, Bool.false_eq_true, Bool.true_eq_false, reduceCtorEq, false_iff, true_iff, iff_true, iff_false, and_true, true_and, and_false, false_and, reduceIte, ite_true, ite_false, eq_self] at *)) <;> omega)) | skip
              clear hv9
              refine wa_iload rfl ?_
              refine wa_iadd ?_
              refine wa_top (fun v10 hv10 => ?_)
              first | (refine i_addK hv10 ?_ ?_ (fun tv10 => ?_); (((try simp only [vp_in_iff, Int32.lt_iff_toInt_lt, Int32.le_iff_toInt_le, ← Int32.toInt_inj, Int32.reduceToInt, n_1, n_2, n_8, Int32.toNatClampNeg, Int64.lt_iff_toInt_lt, Int64.le_iff_toInt_le, ← Int64.toInt_inj, Int64.reduceToInt, Int32.toInt_toInt64, lg_cmp_ge, lg_cmp_le, lg_cmp_gt, lg_cmp_lt, lg_cmp_eq, Bool.false_eq_true, Bool.true_eq_false, reduceCtorEq, false_iff, true_iff, iff_true, iff_false, and_true, true_and, and_false, false_and, reduceIte, ite_true, ite_false, eq_self] at *)) <;> omega); (((try simp only [vp_in_iff, Int32.lt_iff_toInt_lt, Int32.le_iff_toInt_le, ← Int32.toInt_inj, Int32.reduceToInt, n_1, n_2, n_8, Int32.toNatClampNeg, Int64.lt_iff_toInt_lt, Int64.le_iff_toInt_le, ← Int64.toInt_inj, Int64.reduceToInt, Int32.toInt_toInt64, lg_cmp_ge, lg_cmp_le, lg_cmp_gt, lg_cmp_lt, lg_cmp_eq, Bool.false_eq_true, Bool.true_eq_false, reduceCtorEq, false_iff, true_iff, iff_true, iff_false, and_true, true_and, and_false, false_and, reduceIte, ite_true, ite_false, eq_self] at *)) <;> omega)) | skip
              clear hv10
              refine wa_istoreD (lv' := [(6, .int v10), (0, .ref 84), (1, .int a0), (2, .int a1), (3, .int a2), (4, .int l4), (5, .int 0)]) (by decide) rfl ?_
              refine wa_iload rfl ?_
              refine wa_iconst (v := 2) (by decide) ?_
              refine wa_irem (by ((try simp only [vp_in_iff, Int32.lt_iff_toInt_lt, Int32.le_iff_toInt_le, ← Int32.toInt_inj, Int32.reduceToInt, n_1, n_2, n_8, Int32.toNatClampNeg, Int64.lt_iff_toInt_lt, Int64.le_iff_toInt_le, ← Int64.toInt_inj, Int64.reduceToInt, Int32.toInt_toInt64, lg_cmp_ge, lg_cmp_le, lg_cmp_gt, lg_cmp_lt, lg_cmp_eq, Bool.false_eq_true, Bool.true_eq_false, reduceCtorEq, false_iff, true_iff, iff_true, iff_false, and_true, true_and, and_false, false_and, reduceIte, ite_true, ite_false, eq_self] at *)) <;> omega) ?_
              refine wa_top (fun v11 hv11 => ?_)
              first | (refine i_remK hv11 ?_ ?_ (fun tv11 => ?_); (((try simp only [vp_in_iff, Int32.lt_iff_toInt_lt, Int32.le_iff_toInt_le, ← Int32.toInt_inj, Int32.reduceToInt, n_1, n_2, n_8, Int32.toNatClampNeg, Int64.lt_iff_toInt_lt, Int64.le_iff_toInt_le, ← Int64.toInt_inj, Int64.reduceToInt, Int32.toInt_toInt64, lg_cmp_ge, lg_cmp_le, lg_cmp_gt, lg_cmp_lt, lg_cmp_eq, Bool.false_eq_true, Bool.true_eq_false, reduceCtorEq, false_iff, true_iff, iff_true, iff_false, and_true, true_and, and_false, false_and, reduceIte, ite_true, ite_false, eq_self] at *)) <;> omega); (((try simp only [vp_in_iff, Int32.lt_iff_toInt_lt, Int32.le_iff_toInt_le, ← Int32.toInt_inj, Int32.reduceToInt, n_1, n_2, n_8, Int32.toNatClampNeg, Int64.lt_iff_toInt_lt, Int64.le_iff_toInt_le, ← Int64.toInt_inj, Int64.reduceToInt, Int32.toInt_toInt64, lg_cmp_ge, lg_cmp_le, lg_cmp_gt, lg_cmp_lt, lg_cmp_eq, Bool.false_eq_true, Bool.true_eq_false, reduceCtorEq, false_iff, true_iff, iff_true, iff_false, and_true, true_and, and_false, false_and, reduceIte, ite_true, ite_false, eq_self] at *)) <;> omega)) | (refine i_remK2 hv11 ?_ (fun tv11 => ?_); (((try simp only [vp_in_iff, Int32.lt_iff_toInt_lt, Int32.le_iff_toInt_le, ← Int32.toInt_inj, Int32.reduceToInt, n_1, n_2, n_8, Int32.toNatClampNeg, Int64.lt_iff_toInt_lt, Int64.le_iff_toInt_le, ← Int64.toInt_inj, Int64.reduceToInt, Int32.toInt_toInt64, lg_cmp_ge, lg_cmp_le, lg_cmp_gt, lg_cmp_lt, lg_cmp_eq, Bool.false_eq_true, Bool.true_eq_false, reduceCtorEq, false_iff, true_iff, iff_true, iff_false, and_true, true_and, and_false, false_and, reduceIte, ite_true, ite_false, eq_self] at *)) <;> omega)) | skip
              clear hv11
              refine wa_if_ne o_X12_halved_171 (by decide) (fun h12 => ?_) (fun h12 => ?_)
              · refine wa_bipush (v := 16) (by decide) ?_
                refine wa_iload rfl ?_
                refine wa_imul ?_
                refine wa_top (fun v13 hv13 => ?_)
                first | (refine i_mulK hv13 ?_ ?_ (fun tv13 => ?_); (((try simp only [vp_in_iff, Int32.lt_iff_toInt_lt, Int32.le_iff_toInt_le, ← Int32.toInt_inj, Int32.reduceToInt, n_1, n_2, n_8, Int32.toNatClampNeg, Int64.lt_iff_toInt_lt, Int64.le_iff_toInt_le, ← Int64.toInt_inj, Int64.reduceToInt, Int32.toInt_toInt64, lg_cmp_ge, lg_cmp_le, lg_cmp_gt, lg_cmp_lt, lg_cmp_eq, Bool.false_eq_true, Bool.true_eq_false, reduceCtorEq, false_iff, true_iff, iff_true, iff_false, and_true, true_and, and_false, false_and, reduceIte, ite_true, ite_false, eq_self] at *)) <;> omega); (((try simp only [vp_in_iff, Int32.lt_iff_toInt_lt, Int32.le_iff_toInt_le, ← Int32.toInt_inj, Int32.reduceToInt, n_1, n_2, n_8, Int32.toNatClampNeg, Int64.lt_iff_toInt_lt, Int64.le_iff_toInt_le, ← Int64.toInt_inj, Int64.reduceToInt, Int32.toInt_toInt64, lg_cmp_ge, lg_cmp_le, lg_cmp_gt, lg_cmp_lt, lg_cmp_eq, Bool.false_eq_true, Bool.true_eq_false, reduceCtorEq, false_iff, true_iff, iff_true, iff_false, and_true, true_and, and_false, false_and, reduceIte, ite_true, ite_false, eq_self] at *)) <;> omega)) | skip
                clear hv13
                refine wa_iload rfl ?_
                refine wa_iconst (v := 2) (by decide) ?_
                refine wa_irem (by ((try simp only [vp_in_iff, Int32.lt_iff_toInt_lt, Int32.le_iff_toInt_le, ← Int32.toInt_inj, Int32.reduceToInt, n_1, n_2, n_8, Int32.toNatClampNeg, Int64.lt_iff_toInt_lt, Int64.le_iff_toInt_le, ← Int64.toInt_inj, Int64.reduceToInt, Int32.toInt_toInt64, lg_cmp_ge, lg_cmp_le, lg_cmp_gt, lg_cmp_lt, lg_cmp_eq, Bool.false_eq_true, Bool.true_eq_false, reduceCtorEq, false_iff, true_iff, iff_true, iff_false, and_true, true_and, and_false, false_and, reduceIte, ite_true, ite_false, eq_self] at *)) <;> omega) ?_
                refine wa_top (fun v14 hv14 => ?_)
                first | (refine i_remK hv14 ?_ ?_ (fun tv14 => ?_); (((try simp only [vp_in_iff, Int32.lt_iff_toInt_lt, Int32.le_iff_toInt_le, ← Int32.toInt_inj, Int32.reduceToInt, n_1, n_2, n_8, Int32.toNatClampNeg, Int64.lt_iff_toInt_lt, Int64.le_iff_toInt_le, ← Int64.toInt_inj, Int64.reduceToInt, Int32.toInt_toInt64, lg_cmp_ge, lg_cmp_le, lg_cmp_gt, lg_cmp_lt, lg_cmp_eq, Bool.false_eq_true, Bool.true_eq_false, reduceCtorEq, false_iff, true_iff, iff_true, iff_false, and_true, true_and, and_false, false_and, reduceIte, ite_true, ite_false, eq_self] at *)) <;> omega); (((try simp only [vp_in_iff, Int32.lt_iff_toInt_lt, Int32.le_iff_toInt_le, ← Int32.toInt_inj, Int32.reduceToInt, n_1, n_2, n_8, Int32.toNatClampNeg, Int64.lt_iff_toInt_lt, Int64.le_iff_toInt_le, ← Int64.toInt_inj, Int64.reduceToInt, Int32.toInt_toInt64, lg_cmp_ge, lg_cmp_le, lg_cmp_gt, lg_cmp_lt, lg_cmp_eq, Bool.false_eq_true, Bool.true_eq_false, reduceCtorEq, false_iff, true_iff, iff_true, iff_false, and_true, true_and, and_false, false_and, reduceIte, ite_true, ite_false, eq_self] at *)) <;> omega)) | (refine i_remK2 hv14 ?_ (fun tv14 => ?_); (((try simp only [vp_in_iff, Int32.lt_iff_toInt_lt, Int32.le_iff_toInt_le, ← Int32.toInt_inj, Int32.reduceToInt, n_1, n_2, n_8, Int32.toNatClampNeg, Int64.lt_iff_toInt_lt, Int64.le_iff_toInt_le, ← Int64.toInt_inj, Int64.reduceToInt, Int32.toInt_toInt64, lg_cmp_ge, lg_cmp_le, lg_cmp_gt, lg_cmp_lt, lg_cmp_eq, Bool.false_eq_true, Bool.true_eq_false, reduceCtorEq, false_iff, true_iff, iff_true, iff_false, and_true, true_and, and_false, false_and, reduceIte, ite_true, ite_false, eq_self] at *)) <;> omega)) | skip
                clear hv14
                refine wa_if_ne o_X12_halved_190 (by decide) (fun h15 => ?_) (fun h15 => ?_)
                · refine wa_iload rfl ?_
                  refine wa_iload rfl ?_
                  refine wa_iadd ?_
                  refine wa_top (fun v16 hv16 => ?_)
                  first | (refine i_addK hv16 ?_ ?_ (fun tv16 => ?_); (((try simp only [vp_in_iff, Int32.lt_iff_toInt_lt, Int32.le_iff_toInt_le, ← Int32.toInt_inj, Int32.reduceToInt, n_1, n_2, n_8, Int32.toNatClampNeg, Int64.lt_iff_toInt_lt, Int64.le_iff_toInt_le, ← Int64.toInt_inj, Int64.reduceToInt, Int32.toInt_toInt64, lg_cmp_ge, lg_cmp_le, lg_cmp_gt, lg_cmp_lt, lg_cmp_eq, Bool.false_eq_true, Bool.true_eq_false, reduceCtorEq, false_iff, true_iff, iff_true, iff_false, and_true, true_and, and_false, false_and, reduceIte, ite_true, ite_false, eq_self] at *)) <;> omega); (((try simp only [vp_in_iff, Int32.lt_iff_toInt_lt, Int32.le_iff_toInt_le, ← Int32.toInt_inj, Int32.reduceToInt, n_1, n_2, n_8, Int32.toNatClampNeg, Int64.lt_iff_toInt_lt, Int64.le_iff_toInt_le, ← Int64.toInt_inj, Int64.reduceToInt, Int32.toInt_toInt64, lg_cmp_ge, lg_cmp_le, lg_cmp_gt, lg_cmp_lt, lg_cmp_eq, Bool.false_eq_true, Bool.true_eq_false, reduceCtorEq, false_iff, true_iff, iff_true, iff_false, and_true, true_and, and_false, false_and, reduceIte, ite_true, ite_false, eq_self] at *)) <;> omega)) | skip
                  clear hv16
                  refine wa_iconst (v := 2) (by decide) ?_
                  refine wa_idiv (by ((try simp only [vp_in_iff, Int32.lt_iff_toInt_lt, Int32.le_iff_toInt_le, ← Int32.toInt_inj, Int32.reduceToInt, n_1, n_2, n_8, Int32.toNatClampNeg, Int64.lt_iff_toInt_lt, Int64.le_iff_toInt_le, ← Int64.toInt_inj, Int64.reduceToInt, Int32.toInt_toInt64, lg_cmp_ge, lg_cmp_le, lg_cmp_gt, lg_cmp_lt, lg_cmp_eq, Bool.false_eq_true, Bool.true_eq_false, reduceCtorEq, false_iff, true_iff, iff_true, iff_false, and_true, true_and, and_false, false_and, reduceIte, ite_true, ite_false, eq_self] at *)) <;> omega) ?_
                  refine wa_top (fun v17 hv17 => ?_)
                  first | (refine i_divK hv17 ?_ ?_ (fun tv17 => ?_); (((try simp only [vp_in_iff, Int32.lt_iff_toInt_lt, Int32.le_iff_toInt_le, ← Int32.toInt_inj, Int32.reduceToInt, n_1, n_2, n_8, Int32.toNatClampNeg, Int64.lt_iff_toInt_lt, Int64.le_iff_toInt_le, ← Int64.toInt_inj, Int64.reduceToInt, Int32.toInt_toInt64, lg_cmp_ge, lg_cmp_le, lg_cmp_gt, lg_cmp_lt, lg_cmp_eq, Bool.false_eq_true, Bool.true_eq_false, reduceCtorEq, false_iff, true_iff, iff_true, iff_false, and_true, true_and, and_false, false_and, reduceIte, ite_true, ite_false, eq_self] at *)) <;> omega); (((try simp only [vp_in_iff, Int32.lt_iff_toInt_lt, Int32.le_iff_toInt_le, ← Int32.toInt_inj, Int32.reduceToInt, n_1, n_2, n_8, Int32.toNatClampNeg, Int64.lt_iff_toInt_lt, Int64.le_iff_toInt_le, ← Int64.toInt_inj, Int64.reduceToInt, Int32.toInt_toInt64, lg_cmp_ge, lg_cmp_le, lg_cmp_gt, lg_cmp_lt, lg_cmp_eq, Bool.false_eq_true, Bool.true_eq_false, reduceCtorEq, false_iff, true_iff, iff_true, iff_false, and_true, true_and, and_false, false_and, reduceIte, ite_true, ite_false, eq_self] at *)) <;> omega)) | skip
                  clear hv17
                  refine wa_iload rfl ?_
                  refine wa_irem (by ((try simp only [vp_in_iff, Int32.lt_iff_toInt_lt, Int32.le_iff_toInt_le, ← Int32.toInt_inj, Int32.reduceToInt, n_1, n_2, n_8, Int32.toNatClampNeg, Int64.lt_iff_toInt_lt, Int64.le_iff_toInt_le, ← Int64.toInt_inj, Int64.reduceToInt, Int32.toInt_toInt64, lg_cmp_ge, lg_cmp_le, lg_cmp_gt, lg_cmp_lt, lg_cmp_eq, Bool.false_eq_true, Bool.true_eq_false, reduceCtorEq, false_iff, true_iff, iff_true, iff_false, and_true, true_and, and_false, false_and, reduceIte, ite_true, ite_false, eq_self] at *)) <;> omega) ?_
                  refine wa_top (fun v18 hv18 => ?_)
                  first | (refine i_remK hv18 ?_ ?_ (fun tv18 => ?_); (((try simp only [vp_in_iff, Int32.lt_iff_toInt_lt, Int32.le_iff_toInt_le, ← Int32.toInt_inj, Int32.reduceToInt, n_1, n_2, n_8, Int32.toNatClampNeg, Int64.lt_iff_toInt_lt, Int64.le_iff_toInt_le, ← Int64.toInt_inj, Int64.reduceToInt, Int32.toInt_toInt64, lg_cmp_ge, lg_cmp_le, lg_cmp_gt, lg_cmp_lt, lg_cmp_eq, Bool.false_eq_true, Bool.true_eq_false, reduceCtorEq, false_iff, true_iff, iff_true, iff_false, and_true, true_and, and_false, false_and, reduceIte, ite_true, ite_false, eq_self] at *)) <;> omega); (((try simp only [vp_in_iff, Int32.lt_iff_toInt_lt, Int32.le_iff_toInt_le, ← Int32.toInt_inj, Int32.reduceToInt, n_1, n_2, n_8, Int32.toNatClampNeg, Int64.lt_iff_toInt_lt, Int64.le_iff_toInt_le, ← Int64.toInt_inj, Int64.reduceToInt, Int32.toInt_toInt64, lg_cmp_ge, lg_cmp_le, lg_cmp_gt, lg_cmp_lt, lg_cmp_eq, Bool.false_eq_true, Bool.true_eq_false, reduceCtorEq, false_iff, true_iff, iff_true, iff_false, and_true, true_and, and_false, false_and, reduceIte, ite_true, ite_false, eq_self] at *)) <;> omega)) | (refine i_remK2 hv18 ?_ (fun tv18 => ?_); (((try simp only [vp_in_iff, Int32.lt_iff_toInt_lt, Int32.le_iff_toInt_le, ← Int32.toInt_inj, Int32.reduceToInt, n_1, n_2, n_8, Int32.toNatClampNeg, Int64.lt_iff_toInt_lt, Int64.le_iff_toInt_le, ← Int64.toInt_inj, Int64.reduceToInt, Int32.toInt_toInt64, lg_cmp_ge, lg_cmp_le, lg_cmp_gt, lg_cmp_lt, lg_cmp_eq, Bool.false_eq_true, Bool.true_eq_false, reduceCtorEq, false_iff, true_iff, iff_true, iff_false, and_true, true_and, and_false, false_and, reduceIte, ite_true, ite_false, eq_self] at *)) <;> omega)) | skip
                  clear hv18
                  refine wa_iadd ?_
                  refine wa_top (fun v19 hv19 => ?_)
                  first | (refine i_addK hv19 ?_ ?_ (fun tv19 => ?_); (((try simp only [vp_in_iff, Int32.lt_iff_toInt_lt, Int32.le_iff_toInt_le, ← Int32.toInt_inj, Int32.reduceToInt, n_1, n_2, n_8, Int32.toNatClampNeg, Int64.lt_iff_toInt_lt, Int64.le_iff_toInt_le, ← Int64.toInt_inj, Int64.reduceToInt, Int32.toInt_toInt64, lg_cmp_ge, lg_cmp_le, lg_cmp_gt, lg_cmp_lt, lg_cmp_eq, Bool.false_eq_true, Bool.true_eq_false, reduceCtorEq, false_iff, true_iff, iff_true, iff_false, and_true, true_and, and_false, false_and, reduceIte, ite_true, ite_false, eq_self] at *)) <;> omega); (((try simp only [vp_in_iff, Int32.lt_iff_toInt_lt, Int32.le_iff_toInt_le, ← Int32.toInt_inj, Int32.reduceToInt, n_1, n_2, n_8, Int32.toNatClampNeg, Int64.lt_iff_toInt_lt, Int64.le_iff_toInt_le, ← Int64.toInt_inj, Int64.reduceToInt, Int32.toInt_toInt64, lg_cmp_ge, lg_cmp_le, lg_cmp_gt, lg_cmp_lt, lg_cmp_eq, Bool.false_eq_true, Bool.true_eq_false, reduceCtorEq, false_iff, true_iff, iff_true, iff_false, and_true, true_and, and_false, false_and, reduceIte, ite_true, ite_false, eq_self] at *)) <;> omega)) | skip
                  clear hv19
                  refine wa_ireturn rfl rfl ?_
                  exact ⟨_, rfl, rfl, (by ((try simp only [vp_in_iff, Int32.lt_iff_toInt_lt, Int32.le_iff_toInt_le, ← Int32.toInt_inj, Int32.reduceToInt, n_1, n_2, n_8, Int32.toNatClampNeg, Int64.lt_iff_toInt_lt, Int64.le_iff_toInt_le, ← Int64.toInt_inj, Int64.reduceToInt, Int32.toInt_toInt64, lg_cmp_ge, lg_cmp_le, lg_cmp_gt, lg_cmp_lt, lg_cmp_eq, Bool.false_eq_true, Bool.true_eq_false, reduceCtorEq, false_iff, true_iff, iff_true, iff_false, and_true, true_and, and_false, false_and, reduceIte, ite_true, ite_false, eq_self] at *)) <;> omega), trivial⟩
                · refine wa_iload rfl ?_
                  refine wa_iconst (v := 2) (by decide) ?_
                  refine wa_idiv (by ((try simp only [vp_in_iff, Int32.lt_iff_toInt_lt, Int32.le_iff_toInt_le, ← Int32.toInt_inj, Int32.reduceToInt, n_1, n_2, n_8, Int32.toNatClampNeg, Int64.lt_iff_toInt_lt, Int64.le_iff_toInt_le, ← Int64.toInt_inj, Int64.reduceToInt, Int32.toInt_toInt64, lg_cmp_ge, lg_cmp_le, lg_cmp_gt, lg_cmp_lt, lg_cmp_eq, Bool.false_eq_true, Bool.true_eq_false, reduceCtorEq, false_iff, true_iff, iff_true, iff_false, and_true, true_and, and_false, false_and, reduceIte, ite_true, ite_false, eq_self] at *)) <;> omega) ?_
                  refine wa_top (fun v20 hv20 => ?_)
                  first | (refine i_divK hv20 ?_ ?_ (fun tv20 => ?_); (((try simp only [vp_in_iff, Int32.lt_iff_toInt_lt, Int32.le_iff_toInt_le, ← Int32.toInt_inj, Int32.reduceToInt, n_1, n_2, n_8, Int32.toNatClampNeg, Int64.lt_iff_toInt_lt, Int64.le_iff_toInt_le, ← Int64.toInt_inj, Int64.reduceToInt, Int32.toInt_toInt64, lg_cmp_ge, lg_cmp_le, lg_cmp_gt, lg_cmp_lt, lg_cmp_eq, Bool.false_eq_true, Bool.true_eq_false, reduceCtorEq, false_iff, true_iff, iff_true, iff_false, and_true, true_and, and_false, false_and, reduceIte, ite_true, ite_false, eq_self] at *)) <;> omega); (((try simp only [vp_in_iff, Int32.lt_iff_toInt_lt, Int32.le_iff_toInt_le, ← Int32.toInt_inj, Int32.reduceToInt, n_1, n_2, n_8, Int32.toNatClampNeg, Int64.lt_iff_toInt_lt, Int64.le_iff_toInt_le, ← Int64.toInt_inj, Int64.reduceToInt, Int32.toInt_toInt64, lg_cmp_ge, lg_cmp_le, lg_cmp_gt, lg_cmp_lt, lg_cmp_eq, Bool.false_eq_true, Bool.true_eq_false, reduceCtorEq, false_iff, true_iff, iff_true, iff_false, and_true, true_and, and_false, false_and, reduceIte, ite_true, ite_false, eq_self] at *)) <;> omega)) | skip
                  clear hv20
                  refine wa_goto o_X12_halved_197 (by decide) ?_
                  refine wa_iload rfl ?_
                  refine wa_irem (by ((try simp only [vp_in_iff, Int32.lt_iff_toInt_lt, Int32.le_iff_toInt_le, ← Int32.toInt_inj, Int32.reduceToInt, n_1, n_2, n_8, Int32.toNatClampNeg, Int64.lt_iff_toInt_lt, Int64.le_iff_toInt_le, ← Int64.toInt_inj, Int64.reduceToInt, Int32.toInt_toInt64, lg_cmp_ge, lg_cmp_le, lg_cmp_gt, lg_cmp_lt, lg_cmp_eq, Bool.false_eq_true, Bool.true_eq_false, reduceCtorEq, false_iff, true_iff, iff_true, iff_false, and_true, true_and, and_false, false_and, reduceIte, ite_true, ite_false, eq_self] at *)) <;> omega) ?_
                  refine wa_top (fun v21 hv21 => ?_)
                  first | (refine i_remK hv21 ?_ ?_ (fun tv21 => ?_); (((try simp only [vp_in_iff, Int32.lt_iff_toInt_lt, Int32.le_iff_toInt_le, ← Int32.toInt_inj, Int32.reduceToInt, n_1, n_2, n_8, Int32.toNatClampNeg, Int64.lt_iff_toInt_lt, Int64.le_iff_toInt_le, ← Int64.toInt_inj, Int64.reduceToInt, Int32.toInt_toInt64, lg_cmp_ge, lg_cmp_le, lg_cmp_gt, lg_cmp_lt, lg_cmp_eq, Bool.false_eq_true, Bool.true_eq_false, reduceCtorEq, false_iff, true_iff, iff_true, iff_false, and_true, true_and, and_false, false_and, reduceIte, ite_true, ite_false, eq_self] at *)) <;> omega); (((try simp only [vp_in_iff, Int32.lt_iff_toInt_lt, Int32.le_iff_toInt_le, ← Int32.toInt_inj, Int32.reduceToInt, n_1, n_2, n_8, Int32.toNatClampNeg, Int64.lt_iff_toInt_lt, Int64.le_iff_toInt_le, ← Int64.toInt_inj, Int64.reduceToInt, Int32.toInt_toInt64, lg_cmp_ge, lg_cmp_le, lg_cmp_gt, lg_cmp_lt, lg_cmp_eq, Bool.false_eq_true, Bool.true_eq_false, reduceCtorEq, false_iff, true_iff, iff_true, iff_false, and_true, true_and, and_false, false_and, reduceIte, ite_true, ite_false, eq_self] at *)) <;> omega)) | (refine i_remK2 hv21 ?_ (fun tv21 => ?_); (((try simp only [vp_in_iff, Int32.lt_iff_toInt_lt, Int32.le_iff_toInt_le, ← Int32.toInt_inj, Int32.reduceToInt, n_1, n_2, n_8, Int32.toNatClampNeg, Int64.lt_iff_toInt_lt, Int64.le_iff_toInt_le, ← Int64.toInt_inj, Int64.reduceToInt, Int32.toInt_toInt64, lg_cmp_ge, lg_cmp_le, lg_cmp_gt, lg_cmp_lt, lg_cmp_eq, Bool.false_eq_true, Bool.true_eq_false, reduceCtorEq, false_iff, true_iff, iff_true, iff_false, and_true, true_and, and_false, false_and, reduceIte, ite_true, ite_false, eq_self] at *)) <;> omega)) | skip
                  clear hv21
                  refine wa_iadd ?_
                  refine wa_top (fun v22 hv22 => ?_)
                  first | (refine i_addK hv22 ?_ ?_ (fun tv22 => ?_); (((try simp only [vp_in_iff, Int32.lt_iff_toInt_lt, Int32.le_iff_toInt_le, ← Int32.toInt_inj, Int32.reduceToInt, n_1, n_2, n_8, Int32.toNatClampNeg, Int64.lt_iff_toInt_lt, Int64.le_iff_toInt_le, ← Int64.toInt_inj, Int64.reduceToInt, Int32.toInt_toInt64, lg_cmp_ge, lg_cmp_le, lg_cmp_gt, lg_cmp_lt, lg_cmp_eq, Bool.false_eq_true, Bool.true_eq_false, reduceCtorEq, false_iff, true_iff, iff_true, iff_false, and_true, true_and, and_false, false_and, reduceIte, ite_true, ite_false, eq_self] at *)) <;> omega); (((try simp only [vp_in_iff, Int32.lt_iff_toInt_lt, Int32.le_iff_toInt_le, ← Int32.toInt_inj, Int32.reduceToInt, n_1, n_2, n_8, Int32.toNatClampNeg, Int64.lt_iff_toInt_lt, Int64.le_iff_toInt_le, ← Int64.toInt_inj, Int64.reduceToInt, Int32.toInt_toInt64, lg_cmp_ge, lg_cmp_le, lg_cmp_gt, lg_cmp_lt, lg_cmp_eq, Bool.false_eq_true, Bool.true_eq_false, reduceCtorEq, false_iff, true_iff, iff_true, iff_false, and_true, true_and, and_false, false_and, reduceIte, ite_true, ite_false, eq_self] at *)) <;> omega)) | skip
                  clear hv22
                  refine wa_ireturn rfl rfl ?_
                  exact ⟨_, rfl, rfl, (by ((try simp only [vp_in_iff, Int32.lt_iff_toInt_lt, Int32.le_iff_toInt_le, ← Int32.toInt_inj, Int32.reduceToInt, n_1, n_2, n_8, Int32.toNatClampNeg, Int64.lt_iff_toInt_lt, Int64.le_iff_toInt_le, ← Int64.toInt_inj, Int64.reduceToInt, Int32.toInt_toInt64, lg_cmp_ge, lg_cmp_le, lg_cmp_gt, lg_cmp_lt, lg_cmp_eq, Bool.false_eq_true, Bool.true_eq_false, reduceCtorEq, false_iff, true_iff, iff_true, iff_false, and_true, true_and, and_false, false_and, reduceIte, ite_true, ite_false, eq_self] at *)) <;> omega), trivial⟩
              · refine wa_iload rfl ?_
                refine wa_iconst (v := 2) (by decide) ?_
                refine wa_irem (by ((try simp only [vp_in_iff, Int32.lt_iff_toInt_lt, Int32.le_iff_toInt_le, ← Int32.toInt_inj, Int32.reduceToInt, n_1, n_2, n_8, Int32.toNatClampNeg, Int64.lt_iff_toInt_lt, Int64.le_iff_toInt_le, ← Int64.toInt_inj, Int64.reduceToInt, Int32.toInt_toInt64, lg_cmp_ge, lg_cmp_le, lg_cmp_gt, lg_cmp_lt, lg_cmp_eq, Bool.false_eq_true, Bool.true_eq_false, reduceCtorEq, false_iff, true_iff, iff_true, iff_false, and_true, true_and, and_false, false_and, reduceIte, ite_true, ite_false, eq_self] at *)) <;> omega) ?_
                refine wa_top (fun v23 hv23 => ?_)
                first | (refine i_remK hv23 ?_ ?_ (fun tv23 => ?_); (((try simp only [vp_in_iff, Int32.lt_iff_toInt_lt, Int32.le_iff_toInt_le, ← Int32.toInt_inj, Int32.reduceToInt, n_1, n_2, n_8, Int32.toNatClampNeg, Int64.lt_iff_toInt_lt, Int64.le_iff_toInt_le, ← Int64.toInt_inj, Int64.reduceToInt, Int32.toInt_toInt64, lg_cmp_ge, lg_cmp_le, lg_cmp_gt, lg_cmp_lt, lg_cmp_eq, Bool.false_eq_true, Bool.true_eq_false, reduceCtorEq, false_iff, true_iff, iff_true, iff_false, and_true, true_and, and_false, false_and, reduceIte, ite_true, ite_false, eq_self] at *)) <;> omega); (((try simp only [vp_in_iff, Int32.lt_iff_toInt_lt, Int32.le_iff_toInt_le, ← Int32.toInt_inj, Int32.reduceToInt, n_1, n_2, n_8, Int32.toNatClampNeg, Int64.lt_iff_toInt_lt, Int64.le_iff_toInt_le, ← Int64.toInt_inj, Int64.reduceToInt, Int32.toInt_toInt64, lg_cmp_ge, lg_cmp_le, lg_cmp_gt, lg_cmp_lt, lg_cmp_eq, Bool.false_eq_true, Bool.true_eq_false, reduceCtorEq, false_iff, true_iff, iff_true, iff_false, and_true, true_and, and_false, false_and, reduceIte, ite_true, ite_false, eq_self] at *)) <;> omega)) | (refine i_remK2 hv23 ?_ (fun tv23 => ?_); (((try simp only [vp_in_iff, Int32.lt_iff_toInt_lt, Int32.le_iff_toInt_le, ← Int32.toInt_inj, Int32.reduceToInt, n_1, n_2, n_8, Int32.toNatClampNeg, Int64.lt_iff_toInt_lt, Int64.le_iff_toInt_le, ← Int64.toInt_inj, Int64.reduceToInt, Int32.toInt_toInt64, lg_cmp_ge, lg_cmp_le, lg_cmp_gt, lg_cmp_lt, lg_cmp_eq, Bool.false_eq_true, Bool.true_eq_false, reduceCtorEq, false_iff, true_iff, iff_true, iff_false, and_true, true_and, and_false, false_and, reduceIte, ite_true, ite_false, eq_self] at *)) <;> omega)) | skip
                clear hv23
                refine wa_iconst (v := 1) (by decide) ?_
                refine wa_icmp_ne o_X12_halved_143 (by decide) (fun h24 => ?_) (fun h24 => ?_)
                · refine wa_iload rfl ?_
                  refine wa_iconst (v := 2) (by decide) ?_
                  refine wa_icmp_ne o_X12_halved_153 (by decide) (fun h25 => ?_) (fun h25 => ?_)
                  · refine wa_bipush (v := 16) (by decide) ?_
                    refine wa_iload rfl ?_
                    refine wa_iconst (v := 2) (by decide) ?_
                    refine wa_idiv (by ((try simp only [vp_in_iff, Int32.lt_iff_toInt_lt, Int32.le_iff_toInt_le, ← Int32.toInt_inj, Int32.reduceToInt, n_1, n_2, n_8, Int32.toNatClampNeg, Int64.lt_iff_toInt_lt, Int64.le_iff_toInt_le, ← Int64.toInt_inj, Int64.reduceToInt, Int32.toInt_toInt64, lg_cmp_ge, lg_cmp_le, lg_cmp_gt, lg_cmp_lt, lg_cmp_eq, Bool.false_eq_true, Bool.true_eq_false, reduceCtorEq, false_iff, true_iff, iff_true, iff_false, and_true, true_and, and_false, false_and, reduceIte, ite_true, ite_false, eq_self] at *)) <;> omega) ?_
                    refine wa_top (fun v26 hv26 => ?_)
                    first | (refine i_divK hv26 ?_ ?_ (fun tv26 => ?_); (((try simp only [vp_in_iff, Int32.lt_iff_toInt_lt, Int32.le_iff_toInt_le, ← Int32.toInt_inj, Int32.reduceToInt, n_1, n_2, n_8, Int32.toNatClampNeg, Int64.lt_iff_toInt_lt, Int64.le_iff_toInt_le, ← Int64.toInt_inj, Int64.reduceToInt, Int32.toInt_toInt64, lg_cmp_ge, lg_cmp_le, lg_cmp_gt, lg_cmp_lt, lg_cmp_eq, Bool.false_eq_true, Bool.true_eq_false, reduceCtorEq, false_iff, true_iff, iff_true, iff_false, and_true, true_and, and_false, false_and, reduceIte, ite_true, ite_false, eq_self] at *)) <;> omega); (((try simp only [vp_in_iff, Int32.lt_iff_toInt_lt, Int32.le_iff_toInt_le, ← Int32.toInt_inj, Int32.reduceToInt, n_1, n_2, n_8, Int32.toNatClampNeg, Int64.lt_iff_toInt_lt, Int64.le_iff_toInt_le, ← Int64.toInt_inj, Int64.reduceToInt, Int32.toInt_toInt64, lg_cmp_ge, lg_cmp_le, lg_cmp_gt, lg_cmp_lt, lg_cmp_eq, Bool.false_eq_true, Bool.true_eq_false, reduceCtorEq, false_iff, true_iff, iff_true, iff_false, and_true, true_and, and_false, false_and, reduceIte, ite_true, ite_false, eq_self] at *)) <;> omega)) | skip
                    clear hv26
                    refine wa_imul ?_
                    refine wa_top (fun v27 hv27 => ?_)
                    first | (refine i_mulK hv27 ?_ ?_ (fun tv27 => ?_); (((try simp only [vp_in_iff, Int32.lt_iff_toInt_lt, Int32.le_iff_toInt_le, ← Int32.toInt_inj, Int32.reduceToInt, n_1, n_2, n_8, Int32.toNatClampNeg, Int64.lt_iff_toInt_lt, Int64.le_iff_toInt_le, ← Int64.toInt_inj, Int64.reduceToInt, Int32.toInt_toInt64, lg_cmp_ge, lg_cmp_le, lg_cmp_gt, lg_cmp_lt, lg_cmp_eq, Bool.false_eq_true, Bool.true_eq_false, reduceCtorEq, false_iff, true_iff, iff_true, iff_false, and_true, true_and, and_false, false_and, reduceIte, ite_true, ite_false, eq_self] at *)) <;> omega); (((try simp only [vp_in_iff, Int32.lt_iff_toInt_lt, Int32.le_iff_toInt_le, ← Int32.toInt_inj, Int32.reduceToInt, n_1, n_2, n_8, Int32.toNatClampNeg, Int64.lt_iff_toInt_lt, Int64.le_iff_toInt_le, ← Int64.toInt_inj, Int64.reduceToInt, Int32.toInt_toInt64, lg_cmp_ge, lg_cmp_le, lg_cmp_gt, lg_cmp_lt, lg_cmp_eq, Bool.false_eq_true, Bool.true_eq_false, reduceCtorEq, false_iff, true_iff, iff_true, iff_false, and_true, true_and, and_false, false_and, reduceIte, ite_true, ite_false, eq_self] at *)) <;> omega)) | skip
                    clear hv27
                    refine wa_iload rfl ?_
                    refine wa_iconst (v := 2) (by decide) ?_
                    refine wa_idiv (by ((try simp only [vp_in_iff, Int32.lt_iff_toInt_lt, Int32.le_iff_toInt_le, ← Int32.toInt_inj, Int32.reduceToInt, n_1, n_2, n_8, Int32.toNatClampNeg, Int64.lt_iff_toInt_lt, Int64.le_iff_toInt_le, ← Int64.toInt_inj, Int64.reduceToInt, Int32.toInt_toInt64, lg_cmp_ge, lg_cmp_le, lg_cmp_gt, lg_cmp_lt, lg_cmp_eq, Bool.false_eq_true, Bool.true_eq_false, reduceCtorEq, false_iff, true_iff, iff_true, iff_false, and_true, true_and, and_false, false_and, reduceIte, ite_true, ite_false, eq_self] at *)) <;> omega) ?_
                    refine wa_top (fun v28 hv28 => ?_)
                    first | (refine i_divK hv28 ?_ ?_ (fun tv28 => ?_); (((try simp only [vp_in_iff, Int32.lt_iff_toInt_lt, Int32.le_iff_toInt_le, ← Int32.toInt_inj, Int32.reduceToInt, n_1, n_2, n_8, Int32.toNatClampNeg, Int64.lt_iff_toInt_lt, Int64.le_iff_toInt_le, ← Int64.toInt_inj, Int64.reduceToInt, Int32.toInt_toInt64, lg_cmp_ge, lg_cmp_le, lg_cmp_gt, lg_cmp_lt, lg_cmp_eq, Bool.false_eq_true, Bool.true_eq_false, reduceCtorEq, false_iff, true_iff, iff_true, iff_false, and_true, true_and, and_false, false_and, reduceIte, ite_true, ite_false, eq_self] at *)) <;> omega); (((try simp only [vp_in_iff, Int32.lt_iff_toInt_lt, Int32.le_iff_toInt_le, ← Int32.toInt_inj, Int32.reduceToInt, n_1, n_2, n_8, Int32.toNatClampNeg, Int64.lt_iff_toInt_lt, Int64.le_iff_toInt_le, ← Int64.toInt_inj, Int64.reduceToInt, Int32.toInt_toInt64, lg_cmp_ge, lg_cmp_le, lg_cmp_gt, lg_cmp_lt, lg_cmp_eq, Bool.false_eq_true, Bool.true_eq_false, reduceCtorEq, false_iff, true_iff, iff_true, iff_false, and_true, true_and, and_false, false_and, reduceIte, ite_true, ite_false, eq_self] at *)) <;> omega)) | skip
                    clear hv28
                    refine wa_iload rfl ?_
                    refine wa_iconst (v := 2) (by decide) ?_
                    refine wa_idiv (by ((try simp only [vp_in_iff, Int32.lt_iff_toInt_lt, Int32.le_iff_toInt_le, ← Int32.toInt_inj, Int32.reduceToInt, n_1, n_2, n_8, Int32.toNatClampNeg, Int64.lt_iff_toInt_lt, Int64.le_iff_toInt_le, ← Int64.toInt_inj, Int64.reduceToInt, Int32.toInt_toInt64, lg_cmp_ge, lg_cmp_le, lg_cmp_gt, lg_cmp_lt, lg_cmp_eq, Bool.false_eq_true, Bool.true_eq_false, reduceCtorEq, false_iff, true_iff, iff_true, iff_false, and_true, true_and, and_false, false_and, reduceIte, ite_true, ite_false, eq_self] at *)) <;> omega) ?_
                    refine wa_top (fun v29 hv29 => ?_)
                    first | (refine i_divK hv29 ?_ ?_ (fun tv29 => ?_); (((try simp only [vp_in_iff, Int32.lt_iff_toInt_lt, Int32.le_iff_toInt_le, ← Int32.toInt_inj, Int32.reduceToInt, n_1, n_2, n_8, Int32.toNatClampNeg, Int64.lt_iff_toInt_lt, Int64.le_iff_toInt_le, ← Int64.toInt_inj, Int64.reduceToInt, Int32.toInt_toInt64, lg_cmp_ge, lg_cmp_le, lg_cmp_gt, lg_cmp_lt, lg_cmp_eq, Bool.false_eq_true, Bool.true_eq_false, reduceCtorEq, false_iff, true_iff, iff_true, iff_false, and_true, true_and, and_false, false_and, reduceIte, ite_true, ite_false, eq_self] at *)) <;> omega); (((try simp only [vp_in_iff, Int32.lt_iff_toInt_lt, Int32.le_iff_toInt_le, ← Int32.toInt_inj, Int32.reduceToInt, n_1, n_2, n_8, Int32.toNatClampNeg, Int64.lt_iff_toInt_lt, Int64.le_iff_toInt_le, ← Int64.toInt_inj, Int64.reduceToInt, Int32.toInt_toInt64, lg_cmp_ge, lg_cmp_le, lg_cmp_gt, lg_cmp_lt, lg_cmp_eq, Bool.false_eq_true, Bool.true_eq_false, reduceCtorEq, false_iff, true_iff, iff_true, iff_false, and_true, true_and, and_false, false_and, reduceIte, ite_true, ite_false, eq_self] at *)) <;> omega)) | skip
                    clear hv29
                    refine wa_irem (by ((try simp only [vp_in_iff, Int32.lt_iff_toInt_lt, Int32.le_iff_toInt_le, ← Int32.toInt_inj, Int32.reduceToInt, n_1, n_2, n_8, Int32.toNatClampNeg, Int64.lt_iff_toInt_lt, Int64.le_iff_toInt_le, ← Int64.toInt_inj, Int64.reduceToInt, Int32.toInt_toInt64, lg_cmp_ge, lg_cmp_le, lg_cmp_gt, lg_cmp_lt, lg_cmp_eq, Bool.false_eq_true, Bool.true_eq_false, reduceCtorEq, false_iff, true_iff, iff_true, iff_false, and_true, true_and, and_false, false_and, reduceIte, ite_true, ite_false, eq_self] at *)) <;> omega) ?_
                    refine wa_top (fun v30 hv30 => ?_)
                    first | (refine i_remK hv30 ?_ ?_ (fun tv30 => ?_); (((try simp only [vp_in_iff, Int32.lt_iff_toInt_lt, Int32.le_iff_toInt_le, ← Int32.toInt_inj, Int32.reduceToInt, n_1, n_2, n_8, Int32.toNatClampNeg, Int64.lt_iff_toInt_lt, Int64.le_iff_toInt_le, ← Int64.toInt_inj, Int64.reduceToInt, Int32.toInt_toInt64, lg_cmp_ge, lg_cmp_le, lg_cmp_gt, lg_cmp_lt, lg_cmp_eq, Bool.false_eq_true, Bool.true_eq_false, reduceCtorEq, false_iff, true_iff, iff_true, iff_false, and_true, true_and, and_false, false_and, reduceIte, ite_true, ite_false, eq_self] at *)) <;> omega); (((try simp only [vp_in_iff, Int32.lt_iff_toInt_lt, Int32.le_iff_toInt_le, ← Int32.toInt_inj, Int32.reduceToInt, n_1, n_2, n_8, Int32.toNatClampNeg, Int64.lt_iff_toInt_lt, Int64.le_iff_toInt_le, ← Int64.toInt_inj, Int64.reduceToInt, Int32.toInt_toInt64, lg_cmp_ge, lg_cmp_le, lg_cmp_gt, lg_cmp_lt, lg_cmp_eq, Bool.false_eq_true, Bool.true_eq_false, reduceCtorEq, false_iff, true_iff, iff_true, iff_false, and_true, true_and, and_false, false_and, reduceIte, ite_true, ite_false, eq_self] at *)) <;> omega)) | (refine i_remK2 hv30 ?_ (fun tv30 => ?_); (((try simp only [vp_in_iff, Int32.lt_iff_toInt_lt, Int32.le_iff_toInt_le, ← Int32.toInt_inj, Int32.reduceToInt, n_1, n_2, n_8, Int32.toNatClampNeg, Int64.lt_iff_toInt_lt, Int64.le_iff_toInt_le, ← Int64.toInt_inj, Int64.reduceToInt, Int32.toInt_toInt64, lg_cmp_ge, lg_cmp_le, lg_cmp_gt, lg_cmp_lt, lg_cmp_eq, Bool.false_eq_true, Bool.true_eq_false, reduceCtorEq, false_iff, true_iff, iff_true, iff_false, and_true, true_and, and_false, false_and, reduceIte, ite_true, ite_false, eq_self] at *)) <;> omega)) | skip
                    clear hv30
                    refine wa_iadd ?_
                    refine wa_top (fun v31 hv31 => ?_)
                    first | (refine i_addK hv31 ?_ ?_ (fun tv31 => ?_); (((try simp only [vp_in_iff, Int32.lt_iff_toInt_lt, Int32.le_iff_toInt_le, ← Int32.toInt_inj, Int32.reduceToInt, n_1, n_2, n_8, Int32.toNatClampNeg, Int64.lt_iff_toInt_lt, Int64.le_iff_toInt_le, ← Int64.toInt_inj, Int64.reduceToInt, Int32.toInt_toInt64, lg_cmp_ge, lg_cmp_le, lg_cmp_gt, lg_cmp_lt, lg_cmp_eq, Bool.false_eq_true, Bool.true_eq_false, reduceCtorEq, false_iff, true_iff, iff_true, iff_false, and_true, true_and, and_false, false_and, reduceIte, ite_true, ite_false, eq_self] at *)) <;> omega); (((try simp only [vp_in_iff, Int32.lt_iff_toInt_lt, Int32.le_iff_toInt_le, ← Int32.toInt_inj, Int32.reduceToInt, n_1, n_2, n_8, Int32.toNatClampNeg, Int64.lt_iff_toInt_lt, Int64.le_iff_toInt_le, ← Int64.toInt_inj, Int64.reduceToInt, Int32.toInt_toInt64, lg_cmp_ge, lg_cmp_le, lg_cmp_gt, lg_cmp_lt, lg_cmp_eq, Bool.false_eq_true, Bool.true_eq_false, reduceCtorEq, false_iff, true_iff, iff_true, iff_false, and_true, true_and, and_false, false_and, reduceIte, ite_true, ite_false, eq_self] at *)) <;> omega)) | skip
                    clear hv31
                    refine wa_ireturn rfl rfl ?_
                    exact ⟨_, rfl, rfl, (by ((try simp only [vp_in_iff, Int32.lt_iff_toInt_lt, Int32.le_iff_toInt_le, ← Int32.toInt_inj, Int32.reduceToInt, n_1, n_2, n_8, Int32.toNatClampNeg, Int64.lt_iff_toInt_lt, Int64.le_iff_toInt_le, ← Int64.toInt_inj, Int64.reduceToInt, Int32.toInt_toInt64, lg_cmp_ge, lg_cmp_le, lg_cmp_gt, lg_cmp_lt, lg_cmp_eq, Bool.false_eq_true, Bool.true_eq_false, reduceCtorEq, false_iff, true_iff, iff_true, iff_false, and_true, true_and, and_false, false_and, reduceIte, ite_true, ite_false, eq_self] at *)) <;> omega), trivial⟩
                  · refine wa_iconst (v := (-1)) (by decide) ?_
                    refine wa_goto o_X12_halved_170 (by decide) ?_
                    refine wa_ireturn rfl rfl ?_
                    exact ⟨_, rfl, rfl, (by ((try simp only [vp_in_iff, Int32.lt_iff_toInt_lt, Int32.le_iff_toInt_le, ← Int32.toInt_inj, Int32.reduceToInt, n_1, n_2, n_8, Int32.toNatClampNeg, Int64.lt_iff_toInt_lt, Int64.le_iff_toInt_le, ← Int64.toInt_inj, Int64.reduceToInt, Int32.toInt_toInt64, lg_cmp_ge, lg_cmp_le, lg_cmp_gt, lg_cmp_lt, lg_cmp_eq, Bool.false_eq_true, Bool.true_eq_false, reduceCtorEq, false_iff, true_iff, iff_true, iff_false, and_true, true_and, and_false, false_and, reduceIte, ite_true, ite_false, eq_self] at *)) <;> omega), trivial⟩
                · refine wa_bipush (v := (-2)) (by decide) ?_
                  refine wa_goto o_X12_halved_170 (by decide) ?_
                  refine wa_ireturn rfl rfl ?_
                  exact ⟨_, rfl, rfl, (by ((try simp only [vp_in_iff, Int32.lt_iff_toInt_lt, Int32.le_iff_toInt_le, ← Int32.toInt_inj, Int32.reduceToInt, n_1, n_2, n_8, Int32.toNatClampNeg, Int64.lt_iff_toInt_lt, Int64.le_iff_toInt_le, ← Int64.toInt_inj, Int64.reduceToInt, Int32.toInt_toInt64, lg_cmp_ge, lg_cmp_le, lg_cmp_gt, lg_cmp_lt, lg_cmp_eq, Bool.false_eq_true, Bool.true_eq_false, reduceCtorEq, false_iff, true_iff, iff_true, iff_false, and_true, true_and, and_false, false_and, reduceIte, ite_true, ite_false, eq_self] at *)) <;> omega), trivial⟩
            · refine wa_iload_n (i := 2) rfl rfl ?_
              refine wa_ireturn rfl rfl ?_
              exact ⟨_, rfl, rfl, (by ((try simp only [vp_in_iff, Int32.lt_iff_toInt_lt, Int32.le_iff_toInt_le, ← Int32.toInt_inj, Int32.reduceToInt, n_1, n_2, n_8, Int32.toNatClampNeg, Int64.lt_iff_toInt_lt, Int64.le_iff_toInt_le, ← Int64.toInt_inj, Int64.reduceToInt, Int32.toInt_toInt64, lg_cmp_ge, lg_cmp_le, lg_cmp_gt, lg_cmp_lt, lg_cmp_eq, Bool.false_eq_true, Bool.true_eq_false, reduceCtorEq, false_iff, true_iff, iff_true, iff_false, and_true, true_and, and_false, false_and, reduceIte, ite_true, ite_false, eq_self] at *)) <;> omega), trivial⟩
          · refine wa_iload_n (i := 2) rfl rfl ?_
            refine wa_iload rfl ?_
            refine wa_isub ?_
            refine wa_top (fun v32 hv32 => ?_)
            first | (refine i_subK hv32 ?_ ?_ (fun tv32 => ?_); (((try simp only [vp_in_iff, Int32.lt_iff_toInt_lt, Int32.le_iff_toInt_le, ← Int32.toInt_inj, Int32.reduceToInt, n_1, n_2, n_8, Int32.toNatClampNeg, Int64.lt_iff_toInt_lt, Int64.le_iff_toInt_le, ← Int64.toInt_inj, Int64.reduceToInt, Int32.toInt_toInt64, lg_cmp_ge, lg_cmp_le, lg_cmp_gt, lg_cmp_lt, lg_cmp_eq, Bool.false_eq_true, Bool.true_eq_false, reduceCtorEq, false_iff, true_iff, iff_true, iff_false, and_true, true_and, and_false, false_and, reduceIte, ite_true, ite_false, eq_self] at *)) <;> omega); (((try simp only [vp_in_iff, Int32.lt_iff_toInt_lt, Int32.le_iff_toInt_le, ← Int32.toInt_inj, Int32.reduceToInt, n_1, n_2, n_8, Int32.toNatClampNeg, Int64.lt_iff_toInt_lt, Int64.le_iff_toInt_le, ← Int64.toInt_inj, Int64.reduceToInt, Int32.toInt_toInt64, lg_cmp_ge, lg_cmp_le, lg_cmp_gt, lg_cmp_lt, lg_cmp_eq, Bool.false_eq_true, Bool.true_eq_false, reduceCtorEq, false_iff, true_iff, iff_true, iff_false, and_true, true_and, and_false, false_and, reduceIte, ite_true, ite_false, eq_self] at *)) <;> omega)) | skip
            clear hv32
            refine wa_iconst (v := 1) (by decide) ?_
            refine wa_ishr ?_
            refine wa_top (fun v33 hv33 => ?_)
            clear hv33
            refine wa_ireturn rfl rfl ?_
            exact ⟨_, rfl, rfl, (by ((try simp only [vp_in_iff, Int32.lt_iff_toInt_lt, Int32.le_iff_toInt_le, ← Int32.toInt_inj, Int32.reduceToInt, n_1, n_2, n_8, Int32.toNatClampNeg, Int64.lt_iff_toInt_lt, Int64.le_iff_toInt_le, ← Int64.toInt_inj, Int64.reduceToInt, Int32.toInt_toInt64, lg_cmp_ge, lg_cmp_le, lg_cmp_gt, lg_cmp_lt, lg_cmp_eq, Bool.false_eq_true, Bool.true_eq_false, reduceCtorEq, false_iff, true_iff, iff_true, iff_false, and_true, true_and, and_false, false_and, reduceIte, ite_true, ite_false, eq_self] at *)) <;> omega), trivial⟩
        · have mh5 := nle_mx h5
          refine wa_iload_n (i := 3) rfl rfl ?_
          refine wa_iload rfl ?_
          refine wa_ishr ?_
          refine wa_top (fun v34 hv34 => ?_)
          clear hv34
          refine wa_iconst (v := 1) (by decide) ?_
          refine wa_iand ?_
          refine wa_top (fun v35 hv35 => ?_)
          have tv35 := i_andT hv35
          clear hv35
          refine wa_iconst (v := 1) (by decide) ?_
          refine wa_icmp_ne o_X12_halved_86 (by decide) (fun h36 => ?_) (fun h36 => ?_)
          · refine wa_iinc (v := (1)) (lv' := fun y37 => [(6, .int y37), (0, .ref 84), (1, .int a0), (2, .int a1), (3, .int a2), (4, .int l4), (5, .int 0)]) (by decide) rfl (by decide) (fun _ => rfl) (fun y37 hy37 => ?_)
            have ty37 := i_addT hy37.symm
            clear hy37
            refine wa_goto o_X12_halved_29 (by decide) ?_
            refine wa_pick [1, 2, 3, 4, 5, 6, 0] rfl ?_
            exact ih3 _ (by ((try simp only [vp_in_iff, Int32.lt_iff_toInt_lt, Int32.le_iff_toInt_le, ← Int32.toInt_inj, Int32.reduceToInt, n_1, n_2, n_8, Int32.toNatClampNeg, Int64.lt_iff_toInt_lt, Int64.le_iff_toInt_le, ← Int64.toInt_inj, Int64.reduceToInt, Int32.toInt_toInt64, lg_cmp_ge, lg_cmp_le, lg_cmp_gt, lg_cmp_lt, lg_cmp_eq, Bool.false_eq_true, Bool.true_eq_false, reduceCtorEq, false_iff, true_iff, iff_true, iff_false, and_true, true_and, and_false, false_and, reduceIte, ite_true, ite_false, eq_self] at *)) <;> omega) _ _ ⟨(by ((try simp only [vp_in_iff, Int32.lt_iff_toInt_lt, Int32.le_iff_toInt_le, ← Int32.toInt_inj, Int32.reduceToInt, n_1, n_2, n_8, Int32.toNatClampNeg, Int64.lt_iff_toInt_lt, Int64.le_iff_toInt_le, ← Int64.toInt_inj, Int64.reduceToInt, Int32.toInt_toInt64, lg_cmp_ge, lg_cmp_le, lg_cmp_gt, lg_cmp_lt, lg_cmp_eq, Bool.false_eq_true, Bool.true_eq_false, reduceCtorEq, false_iff, true_iff, iff_true, iff_false, and_true, true_and, and_false, false_and, reduceIte, ite_true, ite_false, eq_self] at *)) <;> omega), trivial⟩ rfl
          · refine wa_iload rfl ?_
            refine wa_iload rfl ?_
            refine wa_if_le o_X12_halved_72 (by decide) (fun h38 => ?_) (fun h38 => ?_)
            · refine wa_aload_n (i := 0) rfl rfl ?_
              refine wa_getr ck_12 fl_12_292 ly_84 rf_84_116 ?_
              refine wa_iconst (v := 4) (by decide) ?_
              refine wa_iload_n (i := 1) rfl rfl ?_
              refine wa_imul ?_
              refine wa_top (fun v39 hv39 => ?_)
              first | (refine i_mulK hv39 ?_ ?_ (fun tv39 => ?_); (((try simp only [vp_in_iff, Int32.lt_iff_toInt_lt, Int32.le_iff_toInt_le, ← Int32.toInt_inj, Int32.reduceToInt, n_1, n_2, n_8, Int32.toNatClampNeg, Int64.lt_iff_toInt_lt, Int64.le_iff_toInt_le, ← Int64.toInt_inj, Int64.reduceToInt, Int32.toInt_toInt64, lg_cmp_ge, lg_cmp_le, lg_cmp_gt, lg_cmp_lt, lg_cmp_eq, Bool.false_eq_true, Bool.true_eq_false, reduceCtorEq, false_iff, true_iff, iff_true, iff_false, and_true, true_and, and_false, false_and, reduceIte, ite_true, ite_false, eq_self] at *)) <;> omega); (((try simp only [vp_in_iff, Int32.lt_iff_toInt_lt, Int32.le_iff_toInt_le, ← Int32.toInt_inj, Int32.reduceToInt, n_1, n_2, n_8, Int32.toNatClampNeg, Int64.lt_iff_toInt_lt, Int64.le_iff_toInt_le, ← Int64.toInt_inj, Int64.reduceToInt, Int32.toInt_toInt64, lg_cmp_ge, lg_cmp_le, lg_cmp_gt, lg_cmp_lt, lg_cmp_eq, Bool.false_eq_true, Bool.true_eq_false, reduceCtorEq, false_iff, true_iff, iff_true, iff_false, and_true, true_and, and_false, false_and, reduceIte, ite_true, ite_false, eq_self] at *)) <;> omega)) | skip
              clear hv39
              refine wa_iload rfl ?_
              refine wa_iadd ?_
              refine wa_top (fun v40 hv40 => ?_)
              first | (refine i_addK hv40 ?_ ?_ (fun tv40 => ?_); (((try simp only [vp_in_iff, Int32.lt_iff_toInt_lt, Int32.le_iff_toInt_le, ← Int32.toInt_inj, Int32.reduceToInt, n_1, n_2, n_8, Int32.toNatClampNeg, Int64.lt_iff_toInt_lt, Int64.le_iff_toInt_le, ← Int64.toInt_inj, Int64.reduceToInt, Int32.toInt_toInt64, lg_cmp_ge, lg_cmp_le, lg_cmp_gt, lg_cmp_lt, lg_cmp_eq, Bool.false_eq_true, Bool.true_eq_false, reduceCtorEq, false_iff, true_iff, iff_true, iff_false, and_true, true_and, and_false, false_and, reduceIte, ite_true, ite_false, eq_self] at *)) <;> omega); (((try simp only [vp_in_iff, Int32.lt_iff_toInt_lt, Int32.le_iff_toInt_le, ← Int32.toInt_inj, Int32.reduceToInt, n_1, n_2, n_8, Int32.toNatClampNeg, Int64.lt_iff_toInt_lt, Int64.le_iff_toInt_le, ← Int64.toInt_inj, Int64.reduceToInt, Int32.toInt_toInt64, lg_cmp_ge, lg_cmp_le, lg_cmp_gt, lg_cmp_lt, lg_cmp_eq, Bool.false_eq_true, Bool.true_eq_false, reduceCtorEq, false_iff, true_iff, iff_true, iff_false, and_true, true_and, and_false, false_and, reduceIte, ite_true, ite_false, eq_self] at *)) <;> omega)) | skip
              clear hv40
              refine wa_iald ly_137 (by ((try simp only [vp_in_iff, Int32.lt_iff_toInt_lt, Int32.le_iff_toInt_le, ← Int32.toInt_inj, Int32.reduceToInt, n_1, n_2, n_8, Int32.toNatClampNeg, Int64.lt_iff_toInt_lt, Int64.le_iff_toInt_le, ← Int64.toInt_inj, Int64.reduceToInt, Int32.toInt_toInt64, lg_cmp_ge, lg_cmp_le, lg_cmp_gt, lg_cmp_lt, lg_cmp_eq, Bool.false_eq_true, Bool.true_eq_false, reduceCtorEq, false_iff, true_iff, iff_true, iff_false, and_true, true_and, and_false, false_and, reduceIte, ite_true, ite_false, eq_self] at *)) <;> omega) ?_
              refine wa_top (fun v41 hv41 => ?_)
              have rv41 : -20 ≤ v41.toInt ∧ v41.toInt ≤ 20 := by rw [← hv41]; exact ar_at A_137 _
              clear hv41
              refine wa_iadd ?_
              refine wa_top (fun v42 hv42 => ?_)
              first | (refine i_addK hv42 ?_ ?_ (fun tv42 => ?_); (((try simp only [vp_in_iff, Int32.lt_iff_toInt_lt, Int32.le_iff_toInt_le, ← Int32.toInt_inj, Int32.reduceToInt, n_1, n_2, n_8, Int32.toNatClampNeg, Int64.lt_iff_toInt_lt, Int64.le_iff_toInt_le, ← Int64.toInt_inj, Int64.reduceToInt, Int32.toInt_toInt64, lg_cmp_ge, lg_cmp_le, lg_cmp_gt, lg_cmp_lt, lg_cmp_eq, Bool.false_eq_true, Bool.true_eq_false, reduceCtorEq, false_iff, true_iff, iff_true, iff_false, and_true, true_and, and_false, false_and, reduceIte, ite_true, ite_false, eq_self] at *)) <;> omega); (((try simp only [vp_in_iff, Int32.lt_iff_toInt_lt, Int32.le_iff_toInt_le, ← Int32.toInt_inj, Int32.reduceToInt, n_1, n_2, n_8, Int32.toNatClampNeg, Int64.lt_iff_toInt_lt, Int64.le_iff_toInt_le, ← Int64.toInt_inj, Int64.reduceToInt, Int32.toInt_toInt64, lg_cmp_ge, lg_cmp_le, lg_cmp_gt, lg_cmp_lt, lg_cmp_eq, Bool.false_eq_true, Bool.true_eq_false, reduceCtorEq, false_iff, true_iff, iff_true, iff_false, and_true, true_and, and_false, false_and, reduceIte, ite_true, ite_false, eq_self] at *)) <;> omega)) | skip
              clear hv42
              refine wa_istoreD (lv' := [(4, .int v42), (0, .ref 84), (1, .int a0), (2, .int a1), (3, .int a2), (5, .int 0), (6, .int l6)]) (by decide) rfl ?_
              refine wa_iinc (v := (1)) (lv' := fun y43 => [(6, .int y43), (4, .int v42), (0, .ref 84), (1, .int a0), (2, .int a1), (3, .int a2), (5, .int 0)]) (by decide) rfl (by decide) (fun _ => rfl) (fun y43 hy43 => ?_)
              have ty43 := i_addT hy43.symm
              clear hy43
              refine wa_goto o_X12_halved_29 (by decide) ?_
              refine wa_pick [2, 3, 4, 5, 1, 6, 0] rfl ?_
              exact ih3 _ (by ((try simp only [vp_in_iff, Int32.lt_iff_toInt_lt, Int32.le_iff_toInt_le, ← Int32.toInt_inj, Int32.reduceToInt, n_1, n_2, n_8, Int32.toNatClampNeg, Int64.lt_iff_toInt_lt, Int64.le_iff_toInt_le, ← Int64.toInt_inj, Int64.reduceToInt, Int32.toInt_toInt64, lg_cmp_ge, lg_cmp_le, lg_cmp_gt, lg_cmp_lt, lg_cmp_eq, Bool.false_eq_true, Bool.true_eq_false, reduceCtorEq, false_iff, true_iff, iff_true, iff_false, and_true, true_and, and_false, false_and, reduceIte, ite_true, ite_false, eq_self] at *)) <;> omega) _ _ ⟨(by ((try simp only [vp_in_iff, Int32.lt_iff_toInt_lt, Int32.le_iff_toInt_le, ← Int32.toInt_inj, Int32.reduceToInt, n_1, n_2, n_8, Int32.toNatClampNeg, Int64.lt_iff_toInt_lt, Int64.le_iff_toInt_le, ← Int64.toInt_inj, Int64.reduceToInt, Int32.toInt_toInt64, lg_cmp_ge, lg_cmp_le, lg_cmp_gt, lg_cmp_lt, lg_cmp_eq, Bool.false_eq_true, Bool.true_eq_false, reduceCtorEq, false_iff, true_iff, iff_true, iff_false, and_true, true_and, and_false, false_and, reduceIte, ite_true, ite_false, eq_self] at *)) <;> omega), trivial⟩ rfl
            · refine wa_aload_n (i := 0) rfl rfl ?_
              refine wa_getr ck_12 fl_12_292 ly_84 rf_84_116 ?_
              refine wa_iconst (v := 4) (by decide) ?_
              refine wa_iload_n (i := 1) rfl rfl ?_
              refine wa_imul ?_
              refine wa_top (fun v44 hv44 => ?_)
              first | (refine i_mulK hv44 ?_ ?_ (fun tv44 => ?_); (((try simp only [vp_in_iff, Int32.lt_iff_toInt_lt, Int32.le_iff_toInt_le, ← Int32.toInt_inj, Int32.reduceToInt, n_1, n_2, n_8, Int32.toNatClampNeg, Int64.lt_iff_toInt_lt, Int64.le_iff_toInt_le, ← Int64.toInt_inj, Int64.reduceToInt, Int32.toInt_toInt64, lg_cmp_ge, lg_cmp_le, lg_cmp_gt, lg_cmp_lt, lg_cmp_eq, Bool.false_eq_true, Bool.true_eq_false, reduceCtorEq, false_iff, true_iff, iff_true, iff_false, and_true, true_and, and_false, false_and, reduceIte, ite_true, ite_false, eq_self] at *)) <;> omega); (((try simp only [vp_in_iff, Int32.lt_iff_toInt_lt, Int32.le_iff_toInt_le, ← Int32.toInt_inj, Int32.reduceToInt, n_1, n_2, n_8, Int32.toNatClampNeg, Int64.lt_iff_toInt_lt, Int64.le_iff_toInt_le, ← Int64.toInt_inj, Int64.reduceToInt, Int32.toInt_toInt64, lg_cmp_ge, lg_cmp_le, lg_cmp_gt, lg_cmp_lt, lg_cmp_eq, Bool.false_eq_true, Bool.true_eq_false, reduceCtorEq, false_iff, true_iff, iff_true, iff_false, and_true, true_and, and_false, false_and, reduceIte, ite_true, ite_false, eq_self] at *)) <;> omega)) | skip
              clear hv44
              refine wa_iload rfl ?_
              refine wa_iadd ?_
              refine wa_top (fun v45 hv45 => ?_)
              first | (refine i_addK hv45 ?_ ?_ (fun tv45 => ?_); (((try simp only [vp_in_iff, Int32.lt_iff_toInt_lt, Int32.le_iff_toInt_le, ← Int32.toInt_inj, Int32.reduceToInt, n_1, n_2, n_8, Int32.toNatClampNeg, Int64.lt_iff_toInt_lt, Int64.le_iff_toInt_le, ← Int64.toInt_inj, Int64.reduceToInt, Int32.toInt_toInt64, lg_cmp_ge, lg_cmp_le, lg_cmp_gt, lg_cmp_lt, lg_cmp_eq, Bool.false_eq_true, Bool.true_eq_false, reduceCtorEq, false_iff, true_iff, iff_true, iff_false, and_true, true_and, and_false, false_and, reduceIte, ite_true, ite_false, eq_self] at *)) <;> omega); (((try simp only [vp_in_iff, Int32.lt_iff_toInt_lt, Int32.le_iff_toInt_le, ← Int32.toInt_inj, Int32.reduceToInt, n_1, n_2, n_8, Int32.toNatClampNeg, Int64.lt_iff_toInt_lt, Int64.le_iff_toInt_le, ← Int64.toInt_inj, Int64.reduceToInt, Int32.toInt_toInt64, lg_cmp_ge, lg_cmp_le, lg_cmp_gt, lg_cmp_lt, lg_cmp_eq, Bool.false_eq_true, Bool.true_eq_false, reduceCtorEq, false_iff, true_iff, iff_true, iff_false, and_true, true_and, and_false, false_and, reduceIte, ite_true, ite_false, eq_self] at *)) <;> omega)) | skip
              clear hv45
              refine wa_iald ly_137 (by ((try simp only [vp_in_iff, Int32.lt_iff_toInt_lt, Int32.le_iff_toInt_le, ← Int32.toInt_inj, Int32.reduceToInt, n_1, n_2, n_8, Int32.toNatClampNeg, Int64.lt_iff_toInt_lt, Int64.le_iff_toInt_le, ← Int64.toInt_inj, Int64.reduceToInt, Int32.toInt_toInt64, lg_cmp_ge, lg_cmp_le, lg_cmp_gt, lg_cmp_lt, lg_cmp_eq, Bool.false_eq_true, Bool.true_eq_false, reduceCtorEq, false_iff, true_iff, iff_true, iff_false, and_true, true_and, and_false, false_and, reduceIte, ite_true, ite_false, eq_self] at *)) <;> omega) ?_
              refine wa_top (fun v46 hv46 => ?_)
              have rv46 : -20 ≤ v46.toInt ∧ v46.toInt ≤ 20 := by rw [← hv46]; exact ar_at A_137 _
              clear hv46
              refine wa_iload rfl ?_
              refine wa_irem (by ((try simp only [vp_in_iff, Int32.lt_iff_toInt_lt, Int32.le_iff_toInt_le, ← Int32.toInt_inj, Int32.reduceToInt, n_1, n_2, n_8, Int32.toNatClampNeg, Int64.lt_iff_toInt_lt, Int64.le_iff_toInt_le, ← Int64.toInt_inj, Int64.reduceToInt, Int32.toInt_toInt64, lg_cmp_ge, lg_cmp_le, lg_cmp_gt, lg_cmp_lt, lg_cmp_eq, Bool.false_eq_true, Bool.true_eq_false, reduceCtorEq, false_iff, true_iff, iff_true, iff_false, and_true, true_and, and_false, false_and, reduceIte, ite_true, ite_false, eq_self] at *)) <;> omega) ?_
              refine wa_top (fun v47 hv47 => ?_)
              first | (refine i_remK hv47 ?_ ?_ (fun tv47 => ?_); (((try simp only [vp_in_iff, Int32.lt_iff_toInt_lt, Int32.le_iff_toInt_le, ← Int32.toInt_inj, Int32.reduceToInt, n_1, n_2, n_8, Int32.toNatClampNeg, Int64.lt_iff_toInt_lt, Int64.le_iff_toInt_le, ← Int64.toInt_inj, Int64.reduceToInt, Int32.toInt_toInt64, lg_cmp_ge, lg_cmp_le, lg_cmp_gt, lg_cmp_lt, lg_cmp_eq, Bool.false_eq_true, Bool.true_eq_false, reduceCtorEq, false_iff, true_iff, iff_true, iff_false, and_true, true_and, and_false, false_and, reduceIte, ite_true, ite_false, eq_self] at *)) <;> omega); (((try simp only [vp_in_iff, Int32.lt_iff_toInt_lt, Int32.le_iff_toInt_le, ← Int32.toInt_inj, Int32.reduceToInt, n_1, n_2, n_8, Int32.toNatClampNeg, Int64.lt_iff_toInt_lt, Int64.le_iff_toInt_le, ← Int64.toInt_inj, Int64.reduceToInt, Int32.toInt_toInt64, lg_cmp_ge, lg_cmp_le, lg_cmp_gt, lg_cmp_lt, lg_cmp_eq, Bool.false_eq_true, Bool.true_eq_false, reduceCtorEq, false_iff, true_iff, iff_true, iff_false, and_true, true_and, and_false, false_and, reduceIte, ite_true, ite_false, eq_self] at *)) <;> omega)) | (refine i_remK2 hv47 ?_ (fun tv47 => ?_); (((try simp only [vp_in_iff, Int32.lt_iff_toInt_lt, Int32.le_iff_toInt_le, ← Int32.toInt_inj, Int32.reduceToInt, n_1, n_2, n_8, Int32.toNatClampNeg, Int64.lt_iff_toInt_lt, Int64.le_iff_toInt_le, ← Int64.toInt_inj, Int64.reduceToInt, Int32.toInt_toInt64, lg_cmp_ge, lg_cmp_le, lg_cmp_gt, lg_cmp_lt, lg_cmp_eq, Bool.false_eq_true, Bool.true_eq_false, reduceCtorEq, false_iff, true_iff, iff_true, iff_false, and_true, true_and, and_false, false_and, reduceIte, ite_true, ite_false, eq_self] at *)) <;> omega)) | skip
              clear hv47
              refine wa_goto o_X12_halved_83 (by decide) ?_
              refine wa_iadd ?_
              refine wa_top (fun v48 hv48 => ?_)
              first | (refine i_addK hv48 ?_ ?_ (fun tv48 => ?_); (((try simp only [vp_in_iff, Int32.lt_iff_toInt_lt, Int32.le_iff_toInt_le, ← Int32.toInt_inj, Int32.reduceToInt, n_1, n_2, n_8, Int32.toNatClampNeg, Int64.lt_iff_toInt_lt, Int64.le_iff_toInt_le, ← Int64.toInt_inj, Int64.reduceToInt, Int32.toInt_toInt64, lg_cmp_ge, lg_cmp_le, lg_cmp_gt, lg_cmp_lt, lg_cmp_eq, Bool.false_eq_true, Bool.true_eq_false, reduceCtorEq, false_iff, true_iff, iff_true, iff_false, and_true, true_and, and_false, false_and, reduceIte, ite_true, ite_false, eq_self] at *)) <;> omega); (((try simp only [vp_in_iff, Int32.lt_iff_toInt_lt, Int32.le_iff_toInt_le, ← Int32.toInt_inj, Int32.reduceToInt, n_1, n_2, n_8, Int32.toNatClampNeg, Int64.lt_iff_toInt_lt, Int64.le_iff_toInt_le, ← Int64.toInt_inj, Int64.reduceToInt, Int32.toInt_toInt64, lg_cmp_ge, lg_cmp_le, lg_cmp_gt, lg_cmp_lt, lg_cmp_eq, Bool.false_eq_true, Bool.true_eq_false, reduceCtorEq, false_iff, true_iff, iff_true, iff_false, and_true, true_and, and_false, false_and, reduceIte, ite_true, ite_false, eq_self] at *)) <;> omega)) | skip
              clear hv48
              refine wa_istoreD (lv' := [(4, .int v48), (0, .ref 84), (1, .int a0), (2, .int a1), (3, .int a2), (5, .int 0), (6, .int l6)]) (by decide) rfl ?_
              refine wa_iinc (v := (1)) (lv' := fun y49 => [(6, .int y49), (4, .int v48), (0, .ref 84), (1, .int a0), (2, .int a1), (3, .int a2), (5, .int 0)]) (by decide) rfl (by decide) (fun _ => rfl) (fun y49 hy49 => ?_)
              have ty49 := i_addT hy49.symm
              clear hy49
              refine wa_goto o_X12_halved_29 (by decide) ?_
              refine wa_pick [2, 3, 4, 5, 1, 6, 0] rfl ?_
              exact ih3 _ (by ((try simp only [vp_in_iff, Int32.lt_iff_toInt_lt, Int32.le_iff_toInt_le, ← Int32.toInt_inj, Int32.reduceToInt, n_1, n_2, n_8, Int32.toNatClampNeg, Int64.lt_iff_toInt_lt, Int64.le_iff_toInt_le, ← Int64.toInt_inj, Int64.reduceToInt, Int32.toInt_toInt64, lg_cmp_ge, lg_cmp_le, lg_cmp_gt, lg_cmp_lt, lg_cmp_eq, Bool.false_eq_true, Bool.true_eq_false, reduceCtorEq, false_iff, true_iff, iff_true, iff_false, and_true, true_and, and_false, false_and, reduceIte, ite_true, ite_false, eq_self] at *)) <;> omega) _ _ ⟨(by ((try simp only [vp_in_iff, Int32.lt_iff_toInt_lt, Int32.le_iff_toInt_le, ← Int32.toInt_inj, Int32.reduceToInt, n_1, n_2, n_8, Int32.toNatClampNeg, Int64.lt_iff_toInt_lt, Int64.le_iff_toInt_le, ← Int64.toInt_inj, Int64.reduceToInt, Int32.toInt_toInt64, lg_cmp_ge, lg_cmp_le, lg_cmp_gt, lg_cmp_lt, lg_cmp_eq, Bool.false_eq_true, Bool.true_eq_false, reduceCtorEq, false_iff, true_iff, iff_true, iff_false, and_true, true_and, and_false, false_and, reduceIte, ite_true, ite_false, eq_self] at *)) <;> omega), trivial⟩ rfl
    exact hi4 _ _ _ ⟨(by ((try simp only [vp_in_iff, Int32.lt_iff_toInt_lt, Int32.le_iff_toInt_le, ← Int32.toInt_inj, Int32.reduceToInt, n_1, n_2, n_8, Int32.toNatClampNeg, Int64.lt_iff_toInt_lt, Int64.le_iff_toInt_le, ← Int64.toInt_inj, Int64.reduceToInt, Int32.toInt_toInt64, lg_cmp_ge, lg_cmp_le, lg_cmp_gt, lg_cmp_lt, lg_cmp_eq, Bool.false_eq_true, Bool.true_eq_false, reduceCtorEq, false_iff, true_iff, iff_true, iff_false, and_true, true_and, and_false, false_and, reduceIte, ite_true, ite_false, eq_self] at *)) <;> omega), trivial⟩ rfl
  · refine wa_iload_n (i := 2) rfl rfl ?_
    refine wa_if_lt o_X12_halved_23 (by decide) (fun h50 => ?_) (fun h50 => ?_)
    · refine wa_iconst (v := 0) (by decide) ?_
      refine wa_istoreD (lv' := [(5, .int 0), (4, .int 0), (0, .ref 84), (1, .int a0), (2, .int a1), (3, .int a2)]) (by decide) rfl ?_
      refine wa_iconst (v := 0) (by decide) ?_
      refine wa_istoreD (lv' := [(6, .int 0), (5, .int 0), (4, .int 0), (0, .ref 84), (1, .int a0), (2, .int a1), (3, .int a2)]) (by decide) rfl ?_
      refine wa_pick [3, 4, 5, 6, 2, 1, 0] rfl ?_
      have hi52 : ∀ (n9_29 : Nat) (l4 : Int32) (l6 : Int32), ((0 ≤ l6.toInt) ∧ (True)) → (2147483647 - l6.toInt).toNat = n9_29 → WA G M_X12_halved (ZM G M_X12_halved d (fun r σ' => ∃ x : Int32, r = some (.int x) ∧ σ = σ' ∧ ((gi σ 135 (a0).toNatClampNeg).toInt ≤ 0 ∨ x.toInt < 0 ∨ (16 ≤ x.toInt ∧ x.toInt ≤ 207)) ∧ True)) B_X12_halved_29 [(0, .ref 84), (1, .int a0), (2, .int a1), (3, .int a2), (4, .int l4), (5, .int 0), (6, .int l6)] [] σ := by
        intro n9_29
        induction n9_29 using Nat.strongRecOn with
        | _ n9_29 ih51 =>
          intro l4 l6  i9 m9_29
          obtain ⟨jhi52_0, -⟩ := i9
          have ul4 := Int32.toInt_lt l4
          have wl4 := Int32.le_toInt l4
          have ul6 := Int32.toInt_lt l6
          have wl6 := Int32.le_toInt l6
          refine wa_iload rfl ?_
          refine wa_aload_n (i := 0) rfl rfl ?_
          refine wa_geti ck_12 fl_12_815 ly_84 ?_
          refine wa_icmp_ge o_X12_halved_92 (by decide) (fun h53 => ?_) (fun h53 => ?_)
          · refine wa_aload_n (i := 0) rfl rfl ?_
            refine wa_getr ck_12 fl_12_298 ly_84 rf_84_118 ?_
            refine wa_iload_n (i := 1) rfl rfl ?_
            refine wa_iald ly_135 (by ((try simp only [vp_in_iff, Int32.lt_iff_toInt_lt, Int32.le_iff_toInt_le, ← Int32.toInt_inj, Int32.reduceToInt, n_1, n_2, n_8, Int32.toNatClampNeg, Int64.lt_iff_toInt_lt, Int64.le_iff_toInt_le, ← Int64.toInt_inj, Int64.reduceToInt, Int32.toInt_toInt64, lg_cmp_ge, lg_cmp_le, lg_cmp_gt, lg_cmp_lt, lg_cmp_eq, Bool.false_eq_true, Bool.true_eq_false, reduceCtorEq, false_iff, true_iff, iff_true, iff_false, and_true, true_and, and_false, false_and, reduceIte, ite_true, ite_false, eq_self] at *)) <;> omega) ?_
            refine wa_top (fun v54 hv54 => ?_)
            have rv54 : 0 ≤ v54.toInt ∧ v54.toInt ≤ 12 := by rw [← hv54]; exact ar_at A_135 _
            have qv54 := hv54
            clear hv54
            refine wa_if_ne o_X12_halved_108 (by decide) (fun h55 => ?_) (fun h55 => ?_)
            · refine wa_iload_n (i := 2) rfl rfl ?_
              refine wa_if_ge o_X12_halved_114 (by decide) (fun h56 => ?_) (fun h56 => ?_)
              · refine wa_iload_n (i := 2) rfl rfl ?_
                refine wa_bipush (v := 16) (by decide) ?_
                refine wa_irem (by ((try simp only [vp_in_iff, Int32.lt_iff_toInt_lt, Int32.le_iff_toInt_le, ← Int32.toInt_inj, Int32.reduceToInt, n_1, n_2, n_8, Int32.toNatClampNeg, Int64.lt_iff_toInt_lt, Int64.le_iff_toInt_le, ← Int64.toInt_inj, Int64.reduceToInt, Int32.toInt_toInt64, lg_cmp_ge, lg_cmp_le, lg_cmp_gt, lg_cmp_lt, lg_cmp_eq, Bool.false_eq_true, Bool.true_eq_false, reduceCtorEq, false_iff, true_iff, iff_true, iff_false, and_true, true_and, and_false, false_and, reduceIte, ite_true, ite_false, eq_self] at *)) <;> omega) ?_
                refine wa_top (fun v57 hv57 => ?_)
                first | (refine i_remK hv57 ?_ ?_ (fun tv57 => ?_); (((try simp only [vp_in_iff, Int32.lt_iff_toInt_lt, Int32.le_iff_toInt_le, ← Int32.toInt_inj, Int32.reduceToInt, n_1, n_2, n_8, Int32.toNatClampNeg, Int64.lt_iff_toInt_lt, Int64.le_iff_toInt_le, ← Int64.toInt_inj, Int64.reduceToInt, Int32.toInt_toInt64, lg_cmp_ge, lg_cmp_le, lg_cmp_gt, lg_cmp_lt, lg_cmp_eq, Bool.false_eq_true, Bool.true_eq_false, reduceCtorEq, false_iff, true_iff, iff_true, iff_false, and_true, true_and, and_false, false_and, reduceIte, ite_true, ite_false, eq_self] at *)) <;> omega); (((try simp only [vp_in_iff, Int32.lt_iff_toInt_lt, Int32.le_iff_toInt_le, ← Int32.toInt_inj, Int32.reduceToInt, n_1, n_2, n_8, Int32.toNatClampNeg, Int64.lt_iff_toInt_lt, Int64.le_iff_toInt_le, ← Int64.toInt_inj, Int64.reduceToInt, Int32.toInt_toInt64, lg_cmp_ge, lg_cmp_le, lg_cmp_gt, lg_cmp_lt, lg_cmp_eq, Bool.false_eq_true, Bool.true_eq_false, reduceCtorEq, false_iff, true_iff, iff_true, iff_false, and_true, true_and, and_false, false_and, reduceIte, ite_true, ite_false, eq_self] at *)) <;> omega)) | (refine i_remK2 hv57 ?_ (fun tv57 => ?_); (((try simp only [vp_in_iff, Int32.lt_iff_toInt_lt, Int32.le_iff_toInt_le, ← Int32.toInt_inj, Int32.reduceToInt, n_1, n_2, n_8, Int32.toNatClampNeg, Int64.lt_iff_toInt_lt, Int64.le_iff_toInt_le, ← Int64.toInt_inj, Int64.reduceToInt, Int32.toInt_toInt64, lg_cmp_ge, lg_cmp_le, lg_cmp_gt, lg_cmp_lt, lg_cmp_eq, Bool.false_eq_true, Bool.true_eq_false, reduceCtorEq, false_iff, true_iff, iff_true, iff_false, and_true, true_and, and_false, false_and, reduceIte, ite_true, ite_false, eq_self] at *)) <;> omega)) | skip
                clear hv57
                refine wa_iload rfl ?_
                refine wa_iadd ?_
                refine wa_top (fun v58 hv58 => ?_)
                first | (refine i_addK hv58 ?_ ?_ (fun tv58 => ?_); (((try simp only [vp_in_iff, Int32.lt_iff_toInt_lt, Int32.le_iff_toInt_le, ← Int32.toInt_inj, Int32.reduceToInt, n_1, n_2, n_8, Int32.toNatClampNeg, Int64.lt_iff_toInt_lt, Int64.le_iff_toInt_le, ← Int64.toInt_inj, Int64.reduceToInt, Int32.toInt_toInt64, lg_cmp_ge, lg_cmp_le, lg_cmp_gt, lg_cmp_lt, lg_cmp_eq, Bool.false_eq_true, Bool.true_eq_false, reduceCtorEq, false_iff, true_iff, iff_true, iff_false, and_true, true_and, and_false, false_and, reduceIte, ite_true, ite_false, eq_self] at *)) <;> omega); (((try simp only [vp_in_iff, Int32.lt_iff_toInt_lt, Int32.le_iff_toInt_le, ← Int32.toInt_inj, Int32.reduceToInt, n_1, n_2, n_8, Int32.toNatClampNeg, Int64.lt_iff_toInt_lt, Int64.le_iff_toInt_le, ← Int64.toInt_inj, Int64.reduceToInt, Int32.toInt_toInt64, lg_cmp_ge, lg_cmp_le, lg_cmp_gt, lg_cmp_lt, lg_cmp_eq, Bool.false_eq_true, Bool.true_eq_false, reduceCtorEq, false_iff, true_iff, iff_true, iff_false, and_true, true_and, and_false, false_and, reduceIte, ite_true, ite_false, eq_self] at *)) <;> omega)) | skip
                clear hv58
                refine wa_istoreD (lv' := [(6, .int v58), (0, .ref 84), (1, .int a0), (2, .int a1), (3, .int a2), (4, .int l4), (5, .int 0)]) (by decide) rfl ?_
                refine wa_iload rfl ?_
                refine wa_iconst (v := 2) (by decide) ?_
                refine wa_irem (by ((try simp only [vp_in_iff, Int32.lt_iff_toInt_lt, Int32.le_iff_toInt_le, ← Int32.toInt_inj, Int32.reduceToInt, n_1, n_2, n_8, Int32.toNatClampNeg, Int64.lt_iff_toInt_lt, Int64.le_iff_toInt_le, ← Int64.toInt_inj, Int64.reduceToInt, Int32.toInt_toInt64, lg_cmp_ge, lg_cmp_le, lg_cmp_gt, lg_cmp_lt, lg_cmp_eq, Bool.false_eq_true, Bool.true_eq_false, reduceCtorEq, false_iff, true_iff, iff_true, iff_false, and_true, true_and, and_false, false_and, reduceIte, ite_true, ite_false, eq_self] at *)) <;> omega) ?_
                refine wa_top (fun v59 hv59 => ?_)
                first | (refine i_remK hv59 ?_ ?_ (fun tv59 => ?_); (((try simp only [vp_in_iff, Int32.lt_iff_toInt_lt, Int32.le_iff_toInt_le, ← Int32.toInt_inj, Int32.reduceToInt, n_1, n_2, n_8, Int32.toNatClampNeg, Int64.lt_iff_toInt_lt, Int64.le_iff_toInt_le, ← Int64.toInt_inj, Int64.reduceToInt, Int32.toInt_toInt64, lg_cmp_ge, lg_cmp_le, lg_cmp_gt, lg_cmp_lt, lg_cmp_eq, Bool.false_eq_true, Bool.true_eq_false, reduceCtorEq, false_iff, true_iff, iff_true, iff_false, and_true, true_and, and_false, false_and, reduceIte, ite_true, ite_false, eq_self] at *)) <;> omega); (((try simp only [vp_in_iff, Int32.lt_iff_toInt_lt, Int32.le_iff_toInt_le, ← Int32.toInt_inj, Int32.reduceToInt, n_1, n_2, n_8, Int32.toNatClampNeg, Int64.lt_iff_toInt_lt, Int64.le_iff_toInt_le, ← Int64.toInt_inj, Int64.reduceToInt, Int32.toInt_toInt64, lg_cmp_ge, lg_cmp_le, lg_cmp_gt, lg_cmp_lt, lg_cmp_eq, Bool.false_eq_true, Bool.true_eq_false, reduceCtorEq, false_iff, true_iff, iff_true, iff_false, and_true, true_and, and_false, false_and, reduceIte, ite_true, ite_false, eq_self] at *)) <;> omega)) | (refine i_remK2 hv59 ?_ (fun tv59 => ?_); (((try simp only [vp_in_iff, Int32.lt_iff_toInt_lt, Int32.le_iff_toInt_le, ← Int32.toInt_inj, Int32.reduceToInt, n_1, n_2, n_8, Int32.toNatClampNeg, Int64.lt_iff_toInt_lt, Int64.le_iff_toInt_le, ← Int64.toInt_inj, Int64.reduceToInt, Int32.toInt_toInt64, lg_cmp_ge, lg_cmp_le, lg_cmp_gt, lg_cmp_lt, lg_cmp_eq, Bool.false_eq_true, Bool.true_eq_false, reduceCtorEq, false_iff, true_iff, iff_true, iff_false, and_true, true_and, and_false, false_and, reduceIte, ite_true, ite_false, eq_self] at *)) <;> omega)) | skip
                clear hv59
                refine wa_if_ne o_X12_halved_171 (by decide) (fun h60 => ?_) (fun h60 => ?_)
                · refine wa_bipush (v := 16) (by decide) ?_
                  refine wa_iload rfl ?_
                  refine wa_imul ?_
                  refine wa_top (fun v61 hv61 => ?_)
                  first | (refine i_mulK hv61 ?_ ?_ (fun tv61 => ?_); (((try simp only [vp_in_iff, Int32.lt_iff_toInt_lt, Int32.le_iff_toInt_le, ← Int32.toInt_inj, Int32.reduceToInt, n_1, n_2, n_8, Int32.toNatClampNeg, Int64.lt_iff_toInt_lt, Int64.le_iff_toInt_le, ← Int64.toInt_inj, Int64.reduceToInt, Int32.toInt_toInt64, lg_cmp_ge, lg_cmp_le, lg_cmp_gt, lg_cmp_lt, lg_cmp_eq, Bool.false_eq_true, Bool.true_eq_false, reduceCtorEq, false_iff, true_iff, iff_true, iff_false, and_true, true_and, and_false, false_and, reduceIte, ite_true, ite_false, eq_self] at *)) <;> omega); (((try simp only [vp_in_iff, Int32.lt_iff_toInt_lt, Int32.le_iff_toInt_le, ← Int32.toInt_inj, Int32.reduceToInt, n_1, n_2, n_8, Int32.toNatClampNeg, Int64.lt_iff_toInt_lt, Int64.le_iff_toInt_le, ← Int64.toInt_inj, Int64.reduceToInt, Int32.toInt_toInt64, lg_cmp_ge, lg_cmp_le, lg_cmp_gt, lg_cmp_lt, lg_cmp_eq, Bool.false_eq_true, Bool.true_eq_false, reduceCtorEq, false_iff, true_iff, iff_true, iff_false, and_true, true_and, and_false, false_and, reduceIte, ite_true, ite_false, eq_self] at *)) <;> omega)) | skip
                  clear hv61
                  refine wa_iload rfl ?_
                  refine wa_iconst (v := 2) (by decide) ?_
                  refine wa_irem (by ((try simp only [vp_in_iff, Int32.lt_iff_toInt_lt, Int32.le_iff_toInt_le, ← Int32.toInt_inj, Int32.reduceToInt, n_1, n_2, n_8, Int32.toNatClampNeg, Int64.lt_iff_toInt_lt, Int64.le_iff_toInt_le, ← Int64.toInt_inj, Int64.reduceToInt, Int32.toInt_toInt64, lg_cmp_ge, lg_cmp_le, lg_cmp_gt, lg_cmp_lt, lg_cmp_eq, Bool.false_eq_true, Bool.true_eq_false, reduceCtorEq, false_iff, true_iff, iff_true, iff_false, and_true, true_and, and_false, false_and, reduceIte, ite_true, ite_false, eq_self] at *)) <;> omega) ?_
                  refine wa_top (fun v62 hv62 => ?_)
                  first | (refine i_remK hv62 ?_ ?_ (fun tv62 => ?_); (((try simp only [vp_in_iff, Int32.lt_iff_toInt_lt, Int32.le_iff_toInt_le, ← Int32.toInt_inj, Int32.reduceToInt, n_1, n_2, n_8, Int32.toNatClampNeg, Int64.lt_iff_toInt_lt, Int64.le_iff_toInt_le, ← Int64.toInt_inj, Int64.reduceToInt, Int32.toInt_toInt64, lg_cmp_ge, lg_cmp_le, lg_cmp_gt, lg_cmp_lt, lg_cmp_eq, Bool.false_eq_true, Bool.true_eq_false, reduceCtorEq, false_iff, true_iff, iff_true, iff_false, and_true, true_and, and_false, false_and, reduceIte, ite_true, ite_false, eq_self] at *)) <;> omega); (((try simp only [vp_in_iff, Int32.lt_iff_toInt_lt, Int32.le_iff_toInt_le, ← Int32.toInt_inj, Int32.reduceToInt, n_1, n_2, n_8, Int32.toNatClampNeg, Int64.lt_iff_toInt_lt, Int64.le_iff_toInt_le, ← Int64.toInt_inj, Int64.reduceToInt, Int32.toInt_toInt64, lg_cmp_ge, lg_cmp_le, lg_cmp_gt, lg_cmp_lt, lg_cmp_eq, Bool.false_eq_true, Bool.true_eq_false, reduceCtorEq, false_iff, true_iff, iff_true, iff_false, and_true, true_and, and_false, false_and, reduceIte, ite_true, ite_false, eq_self] at *)) <;> omega)) | (refine i_remK2 hv62 ?_ (fun tv62 => ?_); (((try simp only [vp_in_iff, Int32.lt_iff_toInt_lt, Int32.le_iff_toInt_le, ← Int32.toInt_inj, Int32.reduceToInt, n_1, n_2, n_8, Int32.toNatClampNeg, Int64.lt_iff_toInt_lt, Int64.le_iff_toInt_le, ← Int64.toInt_inj, Int64.reduceToInt, Int32.toInt_toInt64, lg_cmp_ge, lg_cmp_le, lg_cmp_gt, lg_cmp_lt, lg_cmp_eq, Bool.false_eq_true, Bool.true_eq_false, reduceCtorEq, false_iff, true_iff, iff_true, iff_false, and_true, true_and, and_false, false_and, reduceIte, ite_true, ite_false, eq_self] at *)) <;> omega)) | skip
                  clear hv62
                  refine wa_if_ne o_X12_halved_190 (by decide) (fun h63 => ?_) (fun h63 => ?_)
                  · refine wa_iload rfl ?_
                    refine wa_iload rfl ?_
                    refine wa_iadd ?_
                    refine wa_top (fun v64 hv64 => ?_)
                    first | (refine i_addK hv64 ?_ ?_ (fun tv64 => ?_); (((try simp only [vp_in_iff, Int32.lt_iff_toInt_lt, Int32.le_iff_toInt_le, ← Int32.toInt_inj, Int32.reduceToInt, n_1, n_2, n_8, Int32.toNatClampNeg, Int64.lt_iff_toInt_lt, Int64.le_iff_toInt_le, ← Int64.toInt_inj, Int64.reduceToInt, Int32.toInt_toInt64, lg_cmp_ge, lg_cmp_le, lg_cmp_gt, lg_cmp_lt, lg_cmp_eq, Bool.false_eq_true, Bool.true_eq_false, reduceCtorEq, false_iff, true_iff, iff_true, iff_false, and_true, true_and, and_false, false_and, reduceIte, ite_true, ite_false, eq_self] at *)) <;> omega); (((try simp only [vp_in_iff, Int32.lt_iff_toInt_lt, Int32.le_iff_toInt_le, ← Int32.toInt_inj, Int32.reduceToInt, n_1, n_2, n_8, Int32.toNatClampNeg, Int64.lt_iff_toInt_lt, Int64.le_iff_toInt_le, ← Int64.toInt_inj, Int64.reduceToInt, Int32.toInt_toInt64, lg_cmp_ge, lg_cmp_le, lg_cmp_gt, lg_cmp_lt, lg_cmp_eq, Bool.false_eq_true, Bool.true_eq_false, reduceCtorEq, false_iff, true_iff, iff_true, iff_false, and_true, true_and, and_false, false_and, reduceIte, ite_true, ite_false, eq_self] at *)) <;> omega)) | skip
                    clear hv64
                    refine wa_iconst (v := 2) (by decide) ?_
                    refine wa_idiv (by ((try simp only [vp_in_iff, Int32.lt_iff_toInt_lt, Int32.le_iff_toInt_le, ← Int32.toInt_inj, Int32.reduceToInt, n_1, n_2, n_8, Int32.toNatClampNeg, Int64.lt_iff_toInt_lt, Int64.le_iff_toInt_le, ← Int64.toInt_inj, Int64.reduceToInt, Int32.toInt_toInt64, lg_cmp_ge, lg_cmp_le, lg_cmp_gt, lg_cmp_lt, lg_cmp_eq, Bool.false_eq_true, Bool.true_eq_false, reduceCtorEq, false_iff, true_iff, iff_true, iff_false, and_true, true_and, and_false, false_and, reduceIte, ite_true, ite_false, eq_self] at *)) <;> omega) ?_
                    refine wa_top (fun v65 hv65 => ?_)
                    first | (refine i_divK hv65 ?_ ?_ (fun tv65 => ?_); (((try simp only [vp_in_iff, Int32.lt_iff_toInt_lt, Int32.le_iff_toInt_le, ← Int32.toInt_inj, Int32.reduceToInt, n_1, n_2, n_8, Int32.toNatClampNeg, Int64.lt_iff_toInt_lt, Int64.le_iff_toInt_le, ← Int64.toInt_inj, Int64.reduceToInt, Int32.toInt_toInt64, lg_cmp_ge, lg_cmp_le, lg_cmp_gt, lg_cmp_lt, lg_cmp_eq, Bool.false_eq_true, Bool.true_eq_false, reduceCtorEq, false_iff, true_iff, iff_true, iff_false, and_true, true_and, and_false, false_and, reduceIte, ite_true, ite_false, eq_self] at *)) <;> omega); (((try simp only [vp_in_iff, Int32.lt_iff_toInt_lt, Int32.le_iff_toInt_le, ← Int32.toInt_inj, Int32.reduceToInt, n_1, n_2, n_8, Int32.toNatClampNeg, Int64.lt_iff_toInt_lt, Int64.le_iff_toInt_le, ← Int64.toInt_inj, Int64.reduceToInt, Int32.toInt_toInt64, lg_cmp_ge, lg_cmp_le, lg_cmp_gt, lg_cmp_lt, lg_cmp_eq, Bool.false_eq_true, Bool.true_eq_false, reduceCtorEq, false_iff, true_iff, iff_true, iff_false, and_true, true_and, and_false, false_and, reduceIte, ite_true, ite_false, eq_self] at *)) <;> omega)) | skip
                    clear hv65
                    refine wa_iload rfl ?_
                    refine wa_irem (by ((try simp only [vp_in_iff, Int32.lt_iff_toInt_lt, Int32.le_iff_toInt_le, ← Int32.toInt_inj, Int32.reduceToInt, n_1, n_2, n_8, Int32.toNatClampNeg, Int64.lt_iff_toInt_lt, Int64.le_iff_toInt_le, ← Int64.toInt_inj, Int64.reduceToInt, Int32.toInt_toInt64, lg_cmp_ge, lg_cmp_le, lg_cmp_gt, lg_cmp_lt, lg_cmp_eq, Bool.false_eq_true, Bool.true_eq_false, reduceCtorEq, false_iff, true_iff, iff_true, iff_false, and_true, true_and, and_false, false_and, reduceIte, ite_true, ite_false, eq_self] at *)) <;> omega) ?_
                    refine wa_top (fun v66 hv66 => ?_)
                    first | (refine i_remK hv66 ?_ ?_ (fun tv66 => ?_); (((try simp only [vp_in_iff, Int32.lt_iff_toInt_lt, Int32.le_iff_toInt_le, ← Int32.toInt_inj, Int32.reduceToInt, n_1, n_2, n_8, Int32.toNatClampNeg, Int64.lt_iff_toInt_lt, Int64.le_iff_toInt_le, ← Int64.toInt_inj, Int64.reduceToInt, Int32.toInt_toInt64, lg_cmp_ge, lg_cmp_le, lg_cmp_gt, lg_cmp_lt, lg_cmp_eq, Bool.false_eq_true, Bool.true_eq_false, reduceCtorEq, false_iff, true_iff, iff_true, iff_false, and_true, true_and, and_false, false_and, reduceIte, ite_true, ite_false, eq_self] at *)) <;> omega); (((try simp only [vp_in_iff, Int32.lt_iff_toInt_lt, Int32.le_iff_toInt_le, ← Int32.toInt_inj, Int32.reduceToInt, n_1, n_2, n_8, Int32.toNatClampNeg, Int64.lt_iff_toInt_lt, Int64.le_iff_toInt_le, ← Int64.toInt_inj, Int64.reduceToInt, Int32.toInt_toInt64, lg_cmp_ge, lg_cmp_le, lg_cmp_gt, lg_cmp_lt, lg_cmp_eq, Bool.false_eq_true, Bool.true_eq_false, reduceCtorEq, false_iff, true_iff, iff_true, iff_false, and_true, true_and, and_false, false_and, reduceIte, ite_true, ite_false, eq_self] at *)) <;> omega)) | (refine i_remK2 hv66 ?_ (fun tv66 => ?_); (((try simp only [vp_in_iff, Int32.lt_iff_toInt_lt, Int32.le_iff_toInt_le, ← Int32.toInt_inj, Int32.reduceToInt, n_1, n_2, n_8, Int32.toNatClampNeg, Int64.lt_iff_toInt_lt, Int64.le_iff_toInt_le, ← Int64.toInt_inj, Int64.reduceToInt, Int32.toInt_toInt64, lg_cmp_ge, lg_cmp_le, lg_cmp_gt, lg_cmp_lt, lg_cmp_eq, Bool.false_eq_true, Bool.true_eq_false, reduceCtorEq, false_iff, true_iff, iff_true, iff_false, and_true, true_and, and_false, false_and, reduceIte, ite_true, ite_false, eq_self] at *)) <;> omega)) | skip
                    clear hv66
                    refine wa_iadd ?_
                    refine wa_top (fun v67 hv67 => ?_)
                    first | (refine i_addK hv67 ?_ ?_ (fun tv67 => ?_); (((try simp only [vp_in_iff, Int32.lt_iff_toInt_lt, Int32.le_iff_toInt_le, ← Int32.toInt_inj, Int32.reduceToInt, n_1, n_2, n_8, Int32.toNatClampNeg, Int64.lt_iff_toInt_lt, Int64.le_iff_toInt_le, ← Int64.toInt_inj, Int64.reduceToInt, Int32.toInt_toInt64, lg_cmp_ge, lg_cmp_le, lg_cmp_gt, lg_cmp_lt, lg_cmp_eq, Bool.false_eq_true, Bool.true_eq_false, reduceCtorEq, false_iff, true_iff, iff_true, iff_false, and_true, true_and, and_false, false_and, reduceIte, ite_true, ite_false, eq_self] at *)) <;> omega); (((try simp only [vp_in_iff, Int32.lt_iff_toInt_lt, Int32.le_iff_toInt_le, ← Int32.toInt_inj, Int32.reduceToInt, n_1, n_2, n_8, Int32.toNatClampNeg, Int64.lt_iff_toInt_lt, Int64.le_iff_toInt_le, ← Int64.toInt_inj, Int64.reduceToInt, Int32.toInt_toInt64, lg_cmp_ge, lg_cmp_le, lg_cmp_gt, lg_cmp_lt, lg_cmp_eq, Bool.false_eq_true, Bool.true_eq_false, reduceCtorEq, false_iff, true_iff, iff_true, iff_false, and_true, true_and, and_false, false_and, reduceIte, ite_true, ite_false, eq_self] at *)) <;> omega)) | skip
                    clear hv67
                    refine wa_ireturn rfl rfl ?_
                    exact ⟨_, rfl, rfl, (by ((try simp only [vp_in_iff, Int32.lt_iff_toInt_lt, Int32.le_iff_toInt_le, ← Int32.toInt_inj, Int32.reduceToInt, n_1, n_2, n_8, Int32.toNatClampNeg, Int64.lt_iff_toInt_lt, Int64.le_iff_toInt_le, ← Int64.toInt_inj, Int64.reduceToInt, Int32.toInt_toInt64, lg_cmp_ge, lg_cmp_le, lg_cmp_gt, lg_cmp_lt, lg_cmp_eq, Bool.false_eq_true, Bool.true_eq_false, reduceCtorEq, false_iff, true_iff, iff_true, iff_false, and_true, true_and, and_false, false_and, reduceIte, ite_true, ite_false, eq_self] at *)) <;> omega), trivial⟩
                  · refine wa_iload rfl ?_
                    refine wa_iconst (v := 2) (by decide) ?_
                    refine wa_idiv (by ((try simp only [vp_in_iff, Int32.lt_iff_toInt_lt, Int32.le_iff_toInt_le, ← Int32.toInt_inj, Int32.reduceToInt, n_1, n_2, n_8, Int32.toNatClampNeg, Int64.lt_iff_toInt_lt, Int64.le_iff_toInt_le, ← Int64.toInt_inj, Int64.reduceToInt, Int32.toInt_toInt64, lg_cmp_ge, lg_cmp_le, lg_cmp_gt, lg_cmp_lt, lg_cmp_eq, Bool.false_eq_true, Bool.true_eq_false, reduceCtorEq, false_iff, true_iff, iff_true, iff_false, and_true, true_and, and_false, false_and, reduceIte, ite_true, ite_false, eq_self] at *)) <;> omega) ?_
                    refine wa_top (fun v68 hv68 => ?_)
                    first | (refine i_divK hv68 ?_ ?_ (fun tv68 => ?_); (((try simp only [vp_in_iff, Int32.lt_iff_toInt_lt, Int32.le_iff_toInt_le, ← Int32.toInt_inj, Int32.reduceToInt, n_1, n_2, n_8, Int32.toNatClampNeg, Int64.lt_iff_toInt_lt, Int64.le_iff_toInt_le, ← Int64.toInt_inj, Int64.reduceToInt, Int32.toInt_toInt64, lg_cmp_ge, lg_cmp_le, lg_cmp_gt, lg_cmp_lt, lg_cmp_eq, Bool.false_eq_true, Bool.true_eq_false, reduceCtorEq, false_iff, true_iff, iff_true, iff_false, and_true, true_and, and_false, false_and, reduceIte, ite_true, ite_false, eq_self] at *)) <;> omega); (((try simp only [vp_in_iff, Int32.lt_iff_toInt_lt, Int32.le_iff_toInt_le, ← Int32.toInt_inj, Int32.reduceToInt, n_1, n_2, n_8, Int32.toNatClampNeg, Int64.lt_iff_toInt_lt, Int64.le_iff_toInt_le, ← Int64.toInt_inj, Int64.reduceToInt, Int32.toInt_toInt64, lg_cmp_ge, lg_cmp_le, lg_cmp_gt, lg_cmp_lt, lg_cmp_eq, Bool.false_eq_true, Bool.true_eq_false, reduceCtorEq, false_iff, true_iff, iff_true, iff_false, and_true, true_and, and_false, false_and, reduceIte, ite_true, ite_false, eq_self] at *)) <;> omega)) | skip
                    clear hv68
                    refine wa_goto o_X12_halved_197 (by decide) ?_
                    refine wa_iload rfl ?_
                    refine wa_irem (by ((try simp only [vp_in_iff, Int32.lt_iff_toInt_lt, Int32.le_iff_toInt_le, ← Int32.toInt_inj, Int32.reduceToInt, n_1, n_2, n_8, Int32.toNatClampNeg, Int64.lt_iff_toInt_lt, Int64.le_iff_toInt_le, ← Int64.toInt_inj, Int64.reduceToInt, Int32.toInt_toInt64, lg_cmp_ge, lg_cmp_le, lg_cmp_gt, lg_cmp_lt, lg_cmp_eq, Bool.false_eq_true, Bool.true_eq_false, reduceCtorEq, false_iff, true_iff, iff_true, iff_false, and_true, true_and, and_false, false_and, reduceIte, ite_true, ite_false, eq_self] at *)) <;> omega) ?_
                    refine wa_top (fun v69 hv69 => ?_)
                    first | (refine i_remK hv69 ?_ ?_ (fun tv69 => ?_); (((try simp only [vp_in_iff, Int32.lt_iff_toInt_lt, Int32.le_iff_toInt_le, ← Int32.toInt_inj, Int32.reduceToInt, n_1, n_2, n_8, Int32.toNatClampNeg, Int64.lt_iff_toInt_lt, Int64.le_iff_toInt_le, ← Int64.toInt_inj, Int64.reduceToInt, Int32.toInt_toInt64, lg_cmp_ge, lg_cmp_le, lg_cmp_gt, lg_cmp_lt, lg_cmp_eq, Bool.false_eq_true, Bool.true_eq_false, reduceCtorEq, false_iff, true_iff, iff_true, iff_false, and_true, true_and, and_false, false_and, reduceIte, ite_true, ite_false, eq_self] at *)) <;> omega); (((try simp only [vp_in_iff, Int32.lt_iff_toInt_lt, Int32.le_iff_toInt_le, ← Int32.toInt_inj, Int32.reduceToInt, n_1, n_2, n_8, Int32.toNatClampNeg, Int64.lt_iff_toInt_lt, Int64.le_iff_toInt_le, ← Int64.toInt_inj, Int64.reduceToInt, Int32.toInt_toInt64, lg_cmp_ge, lg_cmp_le, lg_cmp_gt, lg_cmp_lt, lg_cmp_eq, Bool.false_eq_true, Bool.true_eq_false, reduceCtorEq, false_iff, true_iff, iff_true, iff_false, and_true, true_and, and_false, false_and, reduceIte, ite_true, ite_false, eq_self] at *)) <;> omega)) | (refine i_remK2 hv69 ?_ (fun tv69 => ?_); (((try simp only [vp_in_iff, Int32.lt_iff_toInt_lt, Int32.le_iff_toInt_le, ← Int32.toInt_inj, Int32.reduceToInt, n_1, n_2, n_8, Int32.toNatClampNeg, Int64.lt_iff_toInt_lt, Int64.le_iff_toInt_le, ← Int64.toInt_inj, Int64.reduceToInt, Int32.toInt_toInt64, lg_cmp_ge, lg_cmp_le, lg_cmp_gt, lg_cmp_lt, lg_cmp_eq, Bool.false_eq_true, Bool.true_eq_false, reduceCtorEq, false_iff, true_iff, iff_true, iff_false, and_true, true_and, and_false, false_and, reduceIte, ite_true, ite_false, eq_self] at *)) <;> omega)) | skip
                    clear hv69
                    refine wa_iadd ?_
                    refine wa_top (fun v70 hv70 => ?_)
                    first | (refine i_addK hv70 ?_ ?_ (fun tv70 => ?_); (((try simp only [vp_in_iff, Int32.lt_iff_toInt_lt, Int32.le_iff_toInt_le, ← Int32.toInt_inj, Int32.reduceToInt, n_1, n_2, n_8, Int32.toNatClampNeg, Int64.lt_iff_toInt_lt, Int64.le_iff_toInt_le, ← Int64.toInt_inj, Int64.reduceToInt, Int32.toInt_toInt64, lg_cmp_ge, lg_cmp_le, lg_cmp_gt, lg_cmp_lt, lg_cmp_eq, Bool.false_eq_true, Bool.true_eq_false, reduceCtorEq, false_iff, true_iff, iff_true, iff_false, and_true, true_and, and_false, false_and, reduceIte, ite_true, ite_false, eq_self] at *)) <;> omega); (((try simp only [vp_in_iff, Int32.lt_iff_toInt_lt, Int32.le_iff_toInt_le, ← Int32.toInt_inj, Int32.reduceToInt, n_1, n_2, n_8, Int32.toNatClampNeg, Int64.lt_iff_toInt_lt, Int64.le_iff_toInt_le, ← Int64.toInt_inj, Int64.reduceToInt, Int32.toInt_toInt64, lg_cmp_ge, lg_cmp_le, lg_cmp_gt, lg_cmp_lt, lg_cmp_eq, Bool.false_eq_true, Bool.true_eq_false, reduceCtorEq, false_iff, true_iff, iff_true, iff_false, and_true, true_and, and_false, false_and, reduceIte, ite_true, ite_false, eq_self] at *)) <;> omega)) | skip
                    clear hv70
                    refine wa_ireturn rfl rfl ?_
                    exact ⟨_, rfl, rfl, (by ((try simp only [vp_in_iff, Int32.lt_iff_toInt_lt, Int32.le_iff_toInt_le, ← Int32.toInt_inj, Int32.reduceToInt, n_1, n_2, n_8, Int32.toNatClampNeg, Int64.lt_iff_toInt_lt, Int64.le_iff_toInt_le, ← Int64.toInt_inj, Int64.reduceToInt, Int32.toInt_toInt64, lg_cmp_ge, lg_cmp_le, lg_cmp_gt, lg_cmp_lt, lg_cmp_eq, Bool.false_eq_true, Bool.true_eq_false, reduceCtorEq, false_iff, true_iff, iff_true, iff_false, and_true, true_and, and_false, false_and, reduceIte, ite_true, ite_false, eq_self] at *)) <;> omega), trivial⟩
                · refine wa_iload rfl ?_
                  refine wa_iconst (v := 2) (by decide) ?_
                  refine wa_irem (by ((try simp only [vp_in_iff, Int32.lt_iff_toInt_lt, Int32.le_iff_toInt_le, ← Int32.toInt_inj, Int32.reduceToInt, n_1, n_2, n_8, Int32.toNatClampNeg, Int64.lt_iff_toInt_lt, Int64.le_iff_toInt_le, ← Int64.toInt_inj, Int64.reduceToInt, Int32.toInt_toInt64, lg_cmp_ge, lg_cmp_le, lg_cmp_gt, lg_cmp_lt, lg_cmp_eq, Bool.false_eq_true, Bool.true_eq_false, reduceCtorEq, false_iff, true_iff, iff_true, iff_false, and_true, true_and, and_false, false_and, reduceIte, ite_true, ite_false, eq_self] at *)) <;> omega) ?_
                  refine wa_top (fun v71 hv71 => ?_)
                  first | (refine i_remK hv71 ?_ ?_ (fun tv71 => ?_); (((try simp only [vp_in_iff, Int32.lt_iff_toInt_lt, Int32.le_iff_toInt_le, ← Int32.toInt_inj, Int32.reduceToInt, n_1, n_2, n_8, Int32.toNatClampNeg, Int64.lt_iff_toInt_lt, Int64.le_iff_toInt_le, ← Int64.toInt_inj, Int64.reduceToInt, Int32.toInt_toInt64, lg_cmp_ge, lg_cmp_le, lg_cmp_gt, lg_cmp_lt, lg_cmp_eq, Bool.false_eq_true, Bool.true_eq_false, reduceCtorEq, false_iff, true_iff, iff_true, iff_false, and_true, true_and, and_false, false_and, reduceIte, ite_true, ite_false, eq_self] at *)) <;> omega); (((try simp only [vp_in_iff, Int32.lt_iff_toInt_lt, Int32.le_iff_toInt_le, ← Int32.toInt_inj, Int32.reduceToInt, n_1, n_2, n_8, Int32.toNatClampNeg, Int64.lt_iff_toInt_lt, Int64.le_iff_toInt_le, ← Int64.toInt_inj, Int64.reduceToInt, Int32.toInt_toInt64, lg_cmp_ge, lg_cmp_le, lg_cmp_gt, lg_cmp_lt, lg_cmp_eq, Bool.false_eq_true, Bool.true_eq_false, reduceCtorEq, false_iff, true_iff, iff_true, iff_false, and_true, true_and, and_false, false_and, reduceIte, ite_true, ite_false, eq_self] at *)) <;> omega)) | (refine i_remK2 hv71 ?_ (fun tv71 => ?_); (((try simp only [vp_in_iff, Int32.lt_iff_toInt_lt, Int32.le_iff_toInt_le, ← Int32.toInt_inj, Int32.reduceToInt, n_1, n_2, n_8, Int32.toNatClampNeg, Int64.lt_iff_toInt_lt, Int64.le_iff_toInt_le, ← Int64.toInt_inj, Int64.reduceToInt, Int32.toInt_toInt64, lg_cmp_ge, lg_cmp_le, lg_cmp_gt, lg_cmp_lt, lg_cmp_eq, Bool.false_eq_true, Bool.true_eq_false, reduceCtorEq, false_iff, true_iff, iff_true, iff_false, and_true, true_and, and_false, false_and, reduceIte, ite_true, ite_false, eq_self] at *)) <;> omega)) | skip
                  clear hv71
                  refine wa_iconst (v := 1) (by decide) ?_
                  refine wa_icmp_ne o_X12_halved_143 (by decide) (fun h72 => ?_) (fun h72 => ?_)
                  · refine wa_iload rfl ?_
                    refine wa_iconst (v := 2) (by decide) ?_
                    refine wa_icmp_ne o_X12_halved_153 (by decide) (fun h73 => ?_) (fun h73 => ?_)
                    · refine wa_bipush (v := 16) (by decide) ?_
                      refine wa_iload rfl ?_
                      refine wa_iconst (v := 2) (by decide) ?_
                      refine wa_idiv (by ((try simp only [vp_in_iff, Int32.lt_iff_toInt_lt, Int32.le_iff_toInt_le, ← Int32.toInt_inj, Int32.reduceToInt, n_1, n_2, n_8, Int32.toNatClampNeg, Int64.lt_iff_toInt_lt, Int64.le_iff_toInt_le, ← Int64.toInt_inj, Int64.reduceToInt, Int32.toInt_toInt64, lg_cmp_ge, lg_cmp_le, lg_cmp_gt, lg_cmp_lt, lg_cmp_eq, Bool.false_eq_true, Bool.true_eq_false, reduceCtorEq, false_iff, true_iff, iff_true, iff_false, and_true, true_and, and_false, false_and, reduceIte, ite_true, ite_false, eq_self] at *)) <;> omega) ?_
                      refine wa_top (fun v74 hv74 => ?_)
                      first | (refine i_divK hv74 ?_ ?_ (fun tv74 => ?_); (((try simp only [vp_in_iff, Int32.lt_iff_toInt_lt, Int32.le_iff_toInt_le, ← Int32.toInt_inj, Int32.reduceToInt, n_1, n_2, n_8, Int32.toNatClampNeg, Int64.lt_iff_toInt_lt, Int64.le_iff_toInt_le, ← Int64.toInt_inj, Int64.reduceToInt, Int32.toInt_toInt64, lg_cmp_ge, lg_cmp_le, lg_cmp_gt, lg_cmp_lt, lg_cmp_eq, Bool.false_eq_true, Bool.true_eq_false, reduceCtorEq, false_iff, true_iff, iff_true, iff_false, and_true, true_and, and_false, false_and, reduceIte, ite_true, ite_false, eq_self] at *)) <;> omega); (((try simp only [vp_in_iff, Int32.lt_iff_toInt_lt, Int32.le_iff_toInt_le, ← Int32.toInt_inj, Int32.reduceToInt, n_1, n_2, n_8, Int32.toNatClampNeg, Int64.lt_iff_toInt_lt, Int64.le_iff_toInt_le, ← Int64.toInt_inj, Int64.reduceToInt, Int32.toInt_toInt64, lg_cmp_ge, lg_cmp_le, lg_cmp_gt, lg_cmp_lt, lg_cmp_eq, Bool.false_eq_true, Bool.true_eq_false, reduceCtorEq, false_iff, true_iff, iff_true, iff_false, and_true, true_and, and_false, false_and, reduceIte, ite_true, ite_false, eq_self] at *)) <;> omega)) | skip
                      clear hv74
                      refine wa_imul ?_
                      refine wa_top (fun v75 hv75 => ?_)
                      first | (refine i_mulK hv75 ?_ ?_ (fun tv75 => ?_); (((try simp only [vp_in_iff, Int32.lt_iff_toInt_lt, Int32.le_iff_toInt_le, ← Int32.toInt_inj, Int32.reduceToInt, n_1, n_2, n_8, Int32.toNatClampNeg, Int64.lt_iff_toInt_lt, Int64.le_iff_toInt_le, ← Int64.toInt_inj, Int64.reduceToInt, Int32.toInt_toInt64, lg_cmp_ge, lg_cmp_le, lg_cmp_gt, lg_cmp_lt, lg_cmp_eq, Bool.false_eq_true, Bool.true_eq_false, reduceCtorEq, false_iff, true_iff, iff_true, iff_false, and_true, true_and, and_false, false_and, reduceIte, ite_true, ite_false, eq_self] at *)) <;> omega); (((try simp only [vp_in_iff, Int32.lt_iff_toInt_lt, Int32.le_iff_toInt_le, ← Int32.toInt_inj, Int32.reduceToInt, n_1, n_2, n_8, Int32.toNatClampNeg, Int64.lt_iff_toInt_lt, Int64.le_iff_toInt_le, ← Int64.toInt_inj, Int64.reduceToInt, Int32.toInt_toInt64, lg_cmp_ge, lg_cmp_le, lg_cmp_gt, lg_cmp_lt, lg_cmp_eq, Bool.false_eq_true, Bool.true_eq_false, reduceCtorEq, false_iff, true_iff, iff_true, iff_false, and_true, true_and, and_false, false_and, reduceIte, ite_true, ite_false, eq_self] at *)) <;> omega)) | skip
                      clear hv75
                      refine wa_iload rfl ?_
                      refine wa_iconst (v := 2) (by decide) ?_
                      refine wa_idiv (by ((try simp only [vp_in_iff, Int32.lt_iff_toInt_lt, Int32.le_iff_toInt_le, ← Int32.toInt_inj, Int32.reduceToInt, n_1, n_2, n_8, Int32.toNatClampNeg, Int64.lt_iff_toInt_lt, Int64.le_iff_toInt_le, ← Int64.toInt_inj, Int64.reduceToInt, Int32.toInt_toInt64, lg_cmp_ge, lg_cmp_le, lg_cmp_gt, lg_cmp_lt, lg_cmp_eq, Bool.false_eq_true, Bool.true_eq_false, reduceCtorEq, false_iff, true_iff, iff_true, iff_false, and_true, true_and, and_false, false_and, reduceIte, ite_true, ite_false, eq_self] at *)) <;> omega) ?_
                      refine wa_top (fun v76 hv76 => ?_)
                      first | (refine i_divK hv76 ?_ ?_ (fun tv76 => ?_); (((try simp only [vp_in_iff, Int32.lt_iff_toInt_lt, Int32.le_iff_toInt_le, ← Int32.toInt_inj, Int32.reduceToInt, n_1, n_2, n_8, Int32.toNatClampNeg, Int64.lt_iff_toInt_lt, Int64.le_iff_toInt_le, ← Int64.toInt_inj, Int64.reduceToInt, Int32.toInt_toInt64, lg_cmp_ge, lg_cmp_le, lg_cmp_gt, lg_cmp_lt, lg_cmp_eq, Bool.false_eq_true, Bool.true_eq_false, reduceCtorEq, false_iff, true_iff, iff_true, iff_false, and_true, true_and, and_false, false_and, reduceIte, ite_true, ite_false, eq_self] at *)) <;> omega); (((try simp only [vp_in_iff, Int32.lt_iff_toInt_lt, Int32.le_iff_toInt_le, ← Int32.toInt_inj, Int32.reduceToInt, n_1, n_2, n_8, Int32.toNatClampNeg, Int64.lt_iff_toInt_lt, Int64.le_iff_toInt_le, ← Int64.toInt_inj, Int64.reduceToInt, Int32.toInt_toInt64, lg_cmp_ge, lg_cmp_le, lg_cmp_gt, lg_cmp_lt, lg_cmp_eq, Bool.false_eq_true, Bool.true_eq_false, reduceCtorEq, false_iff, true_iff, iff_true, iff_false, and_true, true_and, and_false, false_and, reduceIte, ite_true, ite_false, eq_self] at *)) <;> omega)) | skip
                      clear hv76
                      refine wa_iload rfl ?_
                      refine wa_iconst (v := 2) (by decide) ?_
                      refine wa_idiv (by ((try simp only [vp_in_iff, Int32.lt_iff_toInt_lt, Int32.le_iff_toInt_le, ← Int32.toInt_inj, Int32.reduceToInt, n_1, n_2, n_8, Int32.toNatClampNeg, Int64.lt_iff_toInt_lt, Int64.le_iff_toInt_le, ← Int64.toInt_inj, Int64.reduceToInt, Int32.toInt_toInt64, lg_cmp_ge, lg_cmp_le, lg_cmp_gt, lg_cmp_lt, lg_cmp_eq, Bool.false_eq_true, Bool.true_eq_false, reduceCtorEq, false_iff, true_iff, iff_true, iff_false, and_true, true_and, and_false, false_and, reduceIte, ite_true, ite_false, eq_self] at *)) <;> omega) ?_
                      refine wa_top (fun v77 hv77 => ?_)
                      first | (refine i_divK hv77 ?_ ?_ (fun tv77 => ?_); (((try simp only [vp_in_iff, Int32.lt_iff_toInt_lt, Int32.le_iff_toInt_le, ← Int32.toInt_inj, Int32.reduceToInt, n_1, n_2, n_8, Int32.toNatClampNeg, Int64.lt_iff_toInt_lt, Int64.le_iff_toInt_le, ← Int64.toInt_inj, Int64.reduceToInt, Int32.toInt_toInt64, lg_cmp_ge, lg_cmp_le, lg_cmp_gt, lg_cmp_lt, lg_cmp_eq, Bool.false_eq_true, Bool.true_eq_false, reduceCtorEq, false_iff, true_iff, iff_true, iff_false, and_true, true_and, and_false, false_and, reduceIte, ite_true, ite_false, eq_self] at *)) <;> omega); (((try simp only [vp_in_iff, Int32.lt_iff_toInt_lt, Int32.le_iff_toInt_le, ← Int32.toInt_inj, Int32.reduceToInt, n_1, n_2, n_8, Int32.toNatClampNeg, Int64.lt_iff_toInt_lt, Int64.le_iff_toInt_le, ← Int64.toInt_inj, Int64.reduceToInt, Int32.toInt_toInt64, lg_cmp_ge, lg_cmp_le, lg_cmp_gt, lg_cmp_lt, lg_cmp_eq, Bool.false_eq_true, Bool.true_eq_false, reduceCtorEq, false_iff, true_iff, iff_true, iff_false, and_true, true_and, and_false, false_and, reduceIte, ite_true, ite_false, eq_self] at *)) <;> omega)) | skip
                      clear hv77
                      refine wa_irem (by ((try simp only [vp_in_iff, Int32.lt_iff_toInt_lt, Int32.le_iff_toInt_le, ← Int32.toInt_inj, Int32.reduceToInt, n_1, n_2, n_8, Int32.toNatClampNeg, Int64.lt_iff_toInt_lt, Int64.le_iff_toInt_le, ← Int64.toInt_inj, Int64.reduceToInt, Int32.toInt_toInt64, lg_cmp_ge, lg_cmp_le, lg_cmp_gt, lg_cmp_lt, lg_cmp_eq, Bool.false_eq_true, Bool.true_eq_false, reduceCtorEq, false_iff, true_iff, iff_true, iff_false, and_true, true_and, and_false, false_and, reduceIte, ite_true, ite_false, eq_self] at *)) <;> omega) ?_
                      refine wa_top (fun v78 hv78 => ?_)
                      first | (refine i_remK hv78 ?_ ?_ (fun tv78 => ?_); (((try simp only [vp_in_iff, Int32.lt_iff_toInt_lt, Int32.le_iff_toInt_le, ← Int32.toInt_inj, Int32.reduceToInt, n_1, n_2, n_8, Int32.toNatClampNeg, Int64.lt_iff_toInt_lt, Int64.le_iff_toInt_le, ← Int64.toInt_inj, Int64.reduceToInt, Int32.toInt_toInt64, lg_cmp_ge, lg_cmp_le, lg_cmp_gt, lg_cmp_lt, lg_cmp_eq, Bool.false_eq_true, Bool.true_eq_false, reduceCtorEq, false_iff, true_iff, iff_true, iff_false, and_true, true_and, and_false, false_and, reduceIte, ite_true, ite_false, eq_self] at *)) <;> omega); (((try simp only [vp_in_iff, Int32.lt_iff_toInt_lt, Int32.le_iff_toInt_le, ← Int32.toInt_inj, Int32.reduceToInt, n_1, n_2, n_8, Int32.toNatClampNeg, Int64.lt_iff_toInt_lt, Int64.le_iff_toInt_le, ← Int64.toInt_inj, Int64.reduceToInt, Int32.toInt_toInt64, lg_cmp_ge, lg_cmp_le, lg_cmp_gt, lg_cmp_lt, lg_cmp_eq, Bool.false_eq_true, Bool.true_eq_false, reduceCtorEq, false_iff, true_iff, iff_true, iff_false, and_true, true_and, and_false, false_and, reduceIte, ite_true, ite_false, eq_self] at *)) <;> omega)) | (refine i_remK2 hv78 ?_ (fun tv78 => ?_); (((try simp only [vp_in_iff, Int32.lt_iff_toInt_lt, Int32.le_iff_toInt_le, ← Int32.toInt_inj, Int32.reduceToInt, n_1, n_2, n_8, Int32.toNatClampNeg, Int64.lt_iff_toInt_lt, Int64.le_iff_toInt_le, ← Int64.toInt_inj, Int64.reduceToInt, Int32.toInt_toInt64, lg_cmp_ge, lg_cmp_le, lg_cmp_gt, lg_cmp_lt, lg_cmp_eq, Bool.false_eq_true, Bool.true_eq_false, reduceCtorEq, false_iff, true_iff, iff_true, iff_false, and_true, true_and, and_false, false_and, reduceIte, ite_true, ite_false, eq_self] at *)) <;> omega)) | skip
                      clear hv78
                      refine wa_iadd ?_
                      refine wa_top (fun v79 hv79 => ?_)
                      first | (refine i_addK hv79 ?_ ?_ (fun tv79 => ?_); (((try simp only [vp_in_iff, Int32.lt_iff_toInt_lt, Int32.le_iff_toInt_le, ← Int32.toInt_inj, Int32.reduceToInt, n_1, n_2, n_8, Int32.toNatClampNeg, Int64.lt_iff_toInt_lt, Int64.le_iff_toInt_le, ← Int64.toInt_inj, Int64.reduceToInt, Int32.toInt_toInt64, lg_cmp_ge, lg_cmp_le, lg_cmp_gt, lg_cmp_lt, lg_cmp_eq, Bool.false_eq_true, Bool.true_eq_false, reduceCtorEq, false_iff, true_iff, iff_true, iff_false, and_true, true_and, and_false, false_and, reduceIte, ite_true, ite_false, eq_self] at *)) <;> omega); (((try simp only [vp_in_iff, Int32.lt_iff_toInt_lt, Int32.le_iff_toInt_le, ← Int32.toInt_inj, Int32.reduceToInt, n_1, n_2, n_8, Int32.toNatClampNeg, Int64.lt_iff_toInt_lt, Int64.le_iff_toInt_le, ← Int64.toInt_inj, Int64.reduceToInt, Int32.toInt_toInt64, lg_cmp_ge, lg_cmp_le, lg_cmp_gt, lg_cmp_lt, lg_cmp_eq, Bool.false_eq_true, Bool.true_eq_false, reduceCtorEq, false_iff, true_iff, iff_true, iff_false, and_true, true_and, and_false, false_and, reduceIte, ite_true, ite_false, eq_self] at *)) <;> omega)) | skip
                      clear hv79
                      refine wa_ireturn rfl rfl ?_
                      exact ⟨_, rfl, rfl, (by ((try simp only [vp_in_iff, Int32.lt_iff_toInt_lt, Int32.le_iff_toInt_le, ← Int32.toInt_inj, Int32.reduceToInt, n_1, n_2, n_8, Int32.toNatClampNeg, Int64.lt_iff_toInt_lt, Int64.le_iff_toInt_le, ← Int64.toInt_inj, Int64.reduceToInt, Int32.toInt_toInt64, lg_cmp_ge, lg_cmp_le, lg_cmp_gt, lg_cmp_lt, lg_cmp_eq, Bool.false_eq_true, Bool.true_eq_false, reduceCtorEq, false_iff, true_iff, iff_true, iff_false, and_true, true_and, and_false, false_and, reduceIte, ite_true, ite_false, eq_self] at *)) <;> omega), trivial⟩
                    · refine wa_iconst (v := (-1)) (by decide) ?_
                      refine wa_goto o_X12_halved_170 (by decide) ?_
                      refine wa_ireturn rfl rfl ?_
                      exact ⟨_, rfl, rfl, (by ((try simp only [vp_in_iff, Int32.lt_iff_toInt_lt, Int32.le_iff_toInt_le, ← Int32.toInt_inj, Int32.reduceToInt, n_1, n_2, n_8, Int32.toNatClampNeg, Int64.lt_iff_toInt_lt, Int64.le_iff_toInt_le, ← Int64.toInt_inj, Int64.reduceToInt, Int32.toInt_toInt64, lg_cmp_ge, lg_cmp_le, lg_cmp_gt, lg_cmp_lt, lg_cmp_eq, Bool.false_eq_true, Bool.true_eq_false, reduceCtorEq, false_iff, true_iff, iff_true, iff_false, and_true, true_and, and_false, false_and, reduceIte, ite_true, ite_false, eq_self] at *)) <;> omega), trivial⟩
                  · refine wa_bipush (v := (-2)) (by decide) ?_
                    refine wa_goto o_X12_halved_170 (by decide) ?_
                    refine wa_ireturn rfl rfl ?_
                    exact ⟨_, rfl, rfl, (by ((try simp only [vp_in_iff, Int32.lt_iff_toInt_lt, Int32.le_iff_toInt_le, ← Int32.toInt_inj, Int32.reduceToInt, n_1, n_2, n_8, Int32.toNatClampNeg, Int64.lt_iff_toInt_lt, Int64.le_iff_toInt_le, ← Int64.toInt_inj, Int64.reduceToInt, Int32.toInt_toInt64, lg_cmp_ge, lg_cmp_le, lg_cmp_gt, lg_cmp_lt, lg_cmp_eq, Bool.false_eq_true, Bool.true_eq_false, reduceCtorEq, false_iff, true_iff, iff_true, iff_false, and_true, true_and, and_false, false_and, reduceIte, ite_true, ite_false, eq_self] at *)) <;> omega), trivial⟩
              · refine wa_iload_n (i := 2) rfl rfl ?_
                refine wa_ireturn rfl rfl ?_
                exact ⟨_, rfl, rfl, (by ((try simp only [vp_in_iff, Int32.lt_iff_toInt_lt, Int32.le_iff_toInt_le, ← Int32.toInt_inj, Int32.reduceToInt, n_1, n_2, n_8, Int32.toNatClampNeg, Int64.lt_iff_toInt_lt, Int64.le_iff_toInt_le, ← Int64.toInt_inj, Int64.reduceToInt, Int32.toInt_toInt64, lg_cmp_ge, lg_cmp_le, lg_cmp_gt, lg_cmp_lt, lg_cmp_eq, Bool.false_eq_true, Bool.true_eq_false, reduceCtorEq, false_iff, true_iff, iff_true, iff_false, and_true, true_and, and_false, false_and, reduceIte, ite_true, ite_false, eq_self] at *)) <;> omega), trivial⟩
            · refine wa_iload_n (i := 2) rfl rfl ?_
              refine wa_iload rfl ?_
              refine wa_isub ?_
              refine wa_top (fun v80 hv80 => ?_)
              first | (refine i_subK hv80 ?_ ?_ (fun tv80 => ?_); (((try simp only [vp_in_iff, Int32.lt_iff_toInt_lt, Int32.le_iff_toInt_le, ← Int32.toInt_inj, Int32.reduceToInt, n_1, n_2, n_8, Int32.toNatClampNeg, Int64.lt_iff_toInt_lt, Int64.le_iff_toInt_le, ← Int64.toInt_inj, Int64.reduceToInt, Int32.toInt_toInt64, lg_cmp_ge, lg_cmp_le, lg_cmp_gt, lg_cmp_lt, lg_cmp_eq, Bool.false_eq_true, Bool.true_eq_false, reduceCtorEq, false_iff, true_iff, iff_true, iff_false, and_true, true_and, and_false, false_and, reduceIte, ite_true, ite_false, eq_self] at *)) <;> omega); (((try simp only [vp_in_iff, Int32.lt_iff_toInt_lt, Int32.le_iff_toInt_le, ← Int32.toInt_inj, Int32.reduceToInt, n_1, n_2, n_8, Int32.toNatClampNeg, Int64.lt_iff_toInt_lt, Int64.le_iff_toInt_le, ← Int64.toInt_inj, Int64.reduceToInt, Int32.toInt_toInt64, lg_cmp_ge, lg_cmp_le, lg_cmp_gt, lg_cmp_lt, lg_cmp_eq, Bool.false_eq_true, Bool.true_eq_false, reduceCtorEq, false_iff, true_iff, iff_true, iff_false, and_true, true_and, and_false, false_and, reduceIte, ite_true, ite_false, eq_self] at *)) <;> omega)) | skip
              clear hv80
              refine wa_iconst (v := 1) (by decide) ?_
              refine wa_ishr ?_
              refine wa_top (fun v81 hv81 => ?_)
              clear hv81
              refine wa_ireturn rfl rfl ?_
              exact ⟨_, rfl, rfl, (by ((try simp only [vp_in_iff, Int32.lt_iff_toInt_lt, Int32.le_iff_toInt_le, ← Int32.toInt_inj, Int32.reduceToInt, n_1, n_2, n_8, Int32.toNatClampNeg, Int64.lt_iff_toInt_lt, Int64.le_iff_toInt_le, ← Int64.toInt_inj, Int64.reduceToInt, Int32.toInt_toInt64, lg_cmp_ge, lg_cmp_le, lg_cmp_gt, lg_cmp_lt, lg_cmp_eq, Bool.false_eq_true, Bool.true_eq_false, reduceCtorEq, false_iff, true_iff, iff_true, iff_false, and_true, true_and, and_false, false_and, reduceIte, ite_true, ite_false, eq_self] at *)) <;> omega), trivial⟩
          · have mh53 := nle_mx h53
            refine wa_iload_n (i := 3) rfl rfl ?_
            refine wa_iload rfl ?_
            refine wa_ishr ?_
            refine wa_top (fun v82 hv82 => ?_)
            clear hv82
            refine wa_iconst (v := 1) (by decide) ?_
            refine wa_iand ?_
            refine wa_top (fun v83 hv83 => ?_)
            have tv83 := i_andT hv83
            clear hv83
            refine wa_iconst (v := 1) (by decide) ?_
            refine wa_icmp_ne o_X12_halved_86 (by decide) (fun h84 => ?_) (fun h84 => ?_)
            · refine wa_iinc (v := (1)) (lv' := fun y85 => [(6, .int y85), (0, .ref 84), (1, .int a0), (2, .int a1), (3, .int a2), (4, .int l4), (5, .int 0)]) (by decide) rfl (by decide) (fun _ => rfl) (fun y85 hy85 => ?_)
              have ty85 := i_addT hy85.symm
              clear hy85
              refine wa_goto o_X12_halved_29 (by decide) ?_
              refine wa_pick [1, 2, 3, 4, 5, 6, 0] rfl ?_
              exact ih51 _ (by ((try simp only [vp_in_iff, Int32.lt_iff_toInt_lt, Int32.le_iff_toInt_le, ← Int32.toInt_inj, Int32.reduceToInt, n_1, n_2, n_8, Int32.toNatClampNeg, Int64.lt_iff_toInt_lt, Int64.le_iff_toInt_le, ← Int64.toInt_inj, Int64.reduceToInt, Int32.toInt_toInt64, lg_cmp_ge, lg_cmp_le, lg_cmp_gt, lg_cmp_lt, lg_cmp_eq, Bool.false_eq_true, Bool.true_eq_false, reduceCtorEq, false_iff, true_iff, iff_true, iff_false, and_true, true_and, and_false, false_and, reduceIte, ite_true, ite_false, eq_self] at *)) <;> omega) _ _ ⟨(by ((try simp only [vp_in_iff, Int32.lt_iff_toInt_lt, Int32.le_iff_toInt_le, ← Int32.toInt_inj, Int32.reduceToInt, n_1, n_2, n_8, Int32.toNatClampNeg, Int64.lt_iff_toInt_lt, Int64.le_iff_toInt_le, ← Int64.toInt_inj, Int64.reduceToInt, Int32.toInt_toInt64, lg_cmp_ge, lg_cmp_le, lg_cmp_gt, lg_cmp_lt, lg_cmp_eq, Bool.false_eq_true, Bool.true_eq_false, reduceCtorEq, false_iff, true_iff, iff_true, iff_false, and_true, true_and, and_false, false_and, reduceIte, ite_true, ite_false, eq_self] at *)) <;> omega), trivial⟩ rfl
            · refine wa_iload rfl ?_
              refine wa_iload rfl ?_
              refine wa_if_le o_X12_halved_72 (by decide) (fun h86 => ?_) (fun h86 => ?_)
              · refine wa_aload_n (i := 0) rfl rfl ?_
                refine wa_getr ck_12 fl_12_292 ly_84 rf_84_116 ?_
                refine wa_iconst (v := 4) (by decide) ?_
                refine wa_iload_n (i := 1) rfl rfl ?_
                refine wa_imul ?_
                refine wa_top (fun v87 hv87 => ?_)
                first | (refine i_mulK hv87 ?_ ?_ (fun tv87 => ?_); (((try simp only [vp_in_iff, Int32.lt_iff_toInt_lt, Int32.le_iff_toInt_le, ← Int32.toInt_inj, Int32.reduceToInt, n_1, n_2, n_8, Int32.toNatClampNeg, Int64.lt_iff_toInt_lt, Int64.le_iff_toInt_le, ← Int64.toInt_inj, Int64.reduceToInt, Int32.toInt_toInt64, lg_cmp_ge, lg_cmp_le, lg_cmp_gt, lg_cmp_lt, lg_cmp_eq, Bool.false_eq_true, Bool.true_eq_false, reduceCtorEq, false_iff, true_iff, iff_true, iff_false, and_true, true_and, and_false, false_and, reduceIte, ite_true, ite_false, eq_self] at *)) <;> omega); (((try simp only [vp_in_iff, Int32.lt_iff_toInt_lt, Int32.le_iff_toInt_le, ← Int32.toInt_inj, Int32.reduceToInt, n_1, n_2, n_8, Int32.toNatClampNeg, Int64.lt_iff_toInt_lt, Int64.le_iff_toInt_le, ← Int64.toInt_inj, Int64.reduceToInt, Int32.toInt_toInt64, lg_cmp_ge, lg_cmp_le, lg_cmp_gt, lg_cmp_lt, lg_cmp_eq, Bool.false_eq_true, Bool.true_eq_false, reduceCtorEq, false_iff, true_iff, iff_true, iff_false, and_true, true_and, and_false, false_and, reduceIte, ite_true, ite_false, eq_self] at *)) <;> omega)) | skip
                clear hv87
                refine wa_iload rfl ?_
                refine wa_iadd ?_
                refine wa_top (fun v88 hv88 => ?_)
                first | (refine i_addK hv88 ?_ ?_ (fun tv88 => ?_); (((try simp only [vp_in_iff, Int32.lt_iff_toInt_lt, Int32.le_iff_toInt_le, ← Int32.toInt_inj, Int32.reduceToInt, n_1, n_2, n_8, Int32.toNatClampNeg, Int64.lt_iff_toInt_lt, Int64.le_iff_toInt_le, ← Int64.toInt_inj, Int64.reduceToInt, Int32.toInt_toInt64, lg_cmp_ge, lg_cmp_le, lg_cmp_gt, lg_cmp_lt, lg_cmp_eq, Bool.false_eq_true, Bool.true_eq_false, reduceCtorEq, false_iff, true_iff, iff_true, iff_false, and_true, true_and, and_false, false_and, reduceIte, ite_true, ite_false, eq_self] at *)) <;> omega); (((try simp only [vp_in_iff, Int32.lt_iff_toInt_lt, Int32.le_iff_toInt_le, ← Int32.toInt_inj, Int32.reduceToInt, n_1, n_2, n_8, Int32.toNatClampNeg, Int64.lt_iff_toInt_lt, Int64.le_iff_toInt_le, ← Int64.toInt_inj, Int64.reduceToInt, Int32.toInt_toInt64, lg_cmp_ge, lg_cmp_le, lg_cmp_gt, lg_cmp_lt, lg_cmp_eq, Bool.false_eq_true, Bool.true_eq_false, reduceCtorEq, false_iff, true_iff, iff_true, iff_false, and_true, true_and, and_false, false_and, reduceIte, ite_true, ite_false, eq_self] at *)) <;> omega)) | skip
                clear hv88
                refine wa_iald ly_137 (by ((try simp only [vp_in_iff, Int32.lt_iff_toInt_lt, Int32.le_iff_toInt_le, ← Int32.toInt_inj, Int32.reduceToInt, n_1, n_2, n_8, Int32.toNatClampNeg, Int64.lt_iff_toInt_lt, Int64.le_iff_toInt_le, ← Int64.toInt_inj, Int64.reduceToInt, Int32.toInt_toInt64, lg_cmp_ge, lg_cmp_le, lg_cmp_gt, lg_cmp_lt, lg_cmp_eq, Bool.false_eq_true, Bool.true_eq_false, reduceCtorEq, false_iff, true_iff, iff_true, iff_false, and_true, true_and, and_false, false_and, reduceIte, ite_true, ite_false, eq_self] at *)) <;> omega) ?_
                refine wa_top (fun v89 hv89 => ?_)
                have rv89 : -20 ≤ v89.toInt ∧ v89.toInt ≤ 20 := by rw [← hv89]; exact ar_at A_137 _
                clear hv89
                refine wa_iadd ?_
                refine wa_top (fun v90 hv90 => ?_)
                first | (refine i_addK hv90 ?_ ?_ (fun tv90 => ?_); (((try simp only [vp_in_iff, Int32.lt_iff_toInt_lt, Int32.le_iff_toInt_le, ← Int32.toInt_inj, Int32.reduceToInt, n_1, n_2, n_8, Int32.toNatClampNeg, Int64.lt_iff_toInt_lt, Int64.le_iff_toInt_le, ← Int64.toInt_inj, Int64.reduceToInt, Int32.toInt_toInt64, lg_cmp_ge, lg_cmp_le, lg_cmp_gt, lg_cmp_lt, lg_cmp_eq, Bool.false_eq_true, Bool.true_eq_false, reduceCtorEq, false_iff, true_iff, iff_true, iff_false, and_true, true_and, and_false, false_and, reduceIte, ite_true, ite_false, eq_self] at *)) <;> omega); (((try simp only [vp_in_iff, Int32.lt_iff_toInt_lt, Int32.le_iff_toInt_le, ← Int32.toInt_inj, Int32.reduceToInt, n_1, n_2, n_8, Int32.toNatClampNeg, Int64.lt_iff_toInt_lt, Int64.le_iff_toInt_le, ← Int64.toInt_inj, Int64.reduceToInt, Int32.toInt_toInt64, lg_cmp_ge, lg_cmp_le, lg_cmp_gt, lg_cmp_lt, lg_cmp_eq, Bool.false_eq_true, Bool.true_eq_false, reduceCtorEq, false_iff, true_iff, iff_true, iff_false, and_true, true_and, and_false, false_and, reduceIte, ite_true, ite_false, eq_self] at *)) <;> omega)) | skip
                clear hv90
                refine wa_istoreD (lv' := [(4, .int v90), (0, .ref 84), (1, .int a0), (2, .int a1), (3, .int a2), (5, .int 0), (6, .int l6)]) (by decide) rfl ?_
                refine wa_iinc (v := (1)) (lv' := fun y91 => [(6, .int y91), (4, .int v90), (0, .ref 84), (1, .int a0), (2, .int a1), (3, .int a2), (5, .int 0)]) (by decide) rfl (by decide) (fun _ => rfl) (fun y91 hy91 => ?_)
                have ty91 := i_addT hy91.symm
                clear hy91
                refine wa_goto o_X12_halved_29 (by decide) ?_
                refine wa_pick [2, 3, 4, 5, 1, 6, 0] rfl ?_
                exact ih51 _ (by ((try simp only [vp_in_iff, Int32.lt_iff_toInt_lt, Int32.le_iff_toInt_le, ← Int32.toInt_inj, Int32.reduceToInt, n_1, n_2, n_8, Int32.toNatClampNeg, Int64.lt_iff_toInt_lt, Int64.le_iff_toInt_le, ← Int64.toInt_inj, Int64.reduceToInt, Int32.toInt_toInt64, lg_cmp_ge, lg_cmp_le, lg_cmp_gt, lg_cmp_lt, lg_cmp_eq, Bool.false_eq_true, Bool.true_eq_false, reduceCtorEq, false_iff, true_iff, iff_true, iff_false, and_true, true_and, and_false, false_and, reduceIte, ite_true, ite_false, eq_self] at *)) <;> omega) _ _ ⟨(by ((try simp only [vp_in_iff, Int32.lt_iff_toInt_lt, Int32.le_iff_toInt_le, ← Int32.toInt_inj, Int32.reduceToInt, n_1, n_2, n_8, Int32.toNatClampNeg, Int64.lt_iff_toInt_lt, Int64.le_iff_toInt_le, ← Int64.toInt_inj, Int64.reduceToInt, Int32.toInt_toInt64, lg_cmp_ge, lg_cmp_le, lg_cmp_gt, lg_cmp_lt, lg_cmp_eq, Bool.false_eq_true, Bool.true_eq_false, reduceCtorEq, false_iff, true_iff, iff_true, iff_false, and_true, true_and, and_false, false_and, reduceIte, ite_true, ite_false, eq_self] at *)) <;> omega), trivial⟩ rfl
              · refine wa_aload_n (i := 0) rfl rfl ?_
                refine wa_getr ck_12 fl_12_292 ly_84 rf_84_116 ?_
                refine wa_iconst (v := 4) (by decide) ?_
                refine wa_iload_n (i := 1) rfl rfl ?_
                refine wa_imul ?_
                refine wa_top (fun v92 hv92 => ?_)
                first | (refine i_mulK hv92 ?_ ?_ (fun tv92 => ?_); (((try simp only [vp_in_iff, Int32.lt_iff_toInt_lt, Int32.le_iff_toInt_le, ← Int32.toInt_inj, Int32.reduceToInt, n_1, n_2, n_8, Int32.toNatClampNeg, Int64.lt_iff_toInt_lt, Int64.le_iff_toInt_le, ← Int64.toInt_inj, Int64.reduceToInt, Int32.toInt_toInt64, lg_cmp_ge, lg_cmp_le, lg_cmp_gt, lg_cmp_lt, lg_cmp_eq, Bool.false_eq_true, Bool.true_eq_false, reduceCtorEq, false_iff, true_iff, iff_true, iff_false, and_true, true_and, and_false, false_and, reduceIte, ite_true, ite_false, eq_self] at *)) <;> omega); (((try simp only [vp_in_iff, Int32.lt_iff_toInt_lt, Int32.le_iff_toInt_le, ← Int32.toInt_inj, Int32.reduceToInt, n_1, n_2, n_8, Int32.toNatClampNeg, Int64.lt_iff_toInt_lt, Int64.le_iff_toInt_le, ← Int64.toInt_inj, Int64.reduceToInt, Int32.toInt_toInt64, lg_cmp_ge, lg_cmp_le, lg_cmp_gt, lg_cmp_lt, lg_cmp_eq, Bool.false_eq_true, Bool.true_eq_false, reduceCtorEq, false_iff, true_iff, iff_true, iff_false, and_true, true_and, and_false, false_and, reduceIte, ite_true, ite_false, eq_self] at *)) <;> omega)) | skip
                clear hv92
                refine wa_iload rfl ?_
                refine wa_iadd ?_
                refine wa_top (fun v93 hv93 => ?_)
                first | (refine i_addK hv93 ?_ ?_ (fun tv93 => ?_); (((try simp only [vp_in_iff, Int32.lt_iff_toInt_lt, Int32.le_iff_toInt_le, ← Int32.toInt_inj, Int32.reduceToInt, n_1, n_2, n_8, Int32.toNatClampNeg, Int64.lt_iff_toInt_lt, Int64.le_iff_toInt_le, ← Int64.toInt_inj, Int64.reduceToInt, Int32.toInt_toInt64, lg_cmp_ge, lg_cmp_le, lg_cmp_gt, lg_cmp_lt, lg_cmp_eq, Bool.false_eq_true, Bool.true_eq_false, reduceCtorEq, false_iff, true_iff, iff_true, iff_false, and_true, true_and, and_false, false_and, reduceIte, ite_true, ite_false, eq_self] at *)) <;> omega); (((try simp only [vp_in_iff, Int32.lt_iff_toInt_lt, Int32.le_iff_toInt_le, ← Int32.toInt_inj, Int32.reduceToInt, n_1, n_2, n_8, Int32.toNatClampNeg, Int64.lt_iff_toInt_lt, Int64.le_iff_toInt_le, ← Int64.toInt_inj, Int64.reduceToInt, Int32.toInt_toInt64, lg_cmp_ge, lg_cmp_le, lg_cmp_gt, lg_cmp_lt, lg_cmp_eq, Bool.false_eq_true, Bool.true_eq_false, reduceCtorEq, false_iff, true_iff, iff_true, iff_false, and_true, true_and, and_false, false_and, reduceIte, ite_true, ite_false, eq_self] at *)) <;> omega)) | skip
                clear hv93
                refine wa_iald ly_137 (by ((try simp only [vp_in_iff, Int32.lt_iff_toInt_lt, Int32.le_iff_toInt_le, ← Int32.toInt_inj, Int32.reduceToInt, n_1, n_2, n_8, Int32.toNatClampNeg, Int64.lt_iff_toInt_lt, Int64.le_iff_toInt_le, ← Int64.toInt_inj, Int64.reduceToInt, Int32.toInt_toInt64, lg_cmp_ge, lg_cmp_le, lg_cmp_gt, lg_cmp_lt, lg_cmp_eq, Bool.false_eq_true, Bool.true_eq_false, reduceCtorEq, false_iff, true_iff, iff_true, iff_false, and_true, true_and, and_false, false_and, reduceIte, ite_true, ite_false, eq_self] at *)) <;> omega) ?_
                refine wa_top (fun v94 hv94 => ?_)
                have rv94 : -20 ≤ v94.toInt ∧ v94.toInt ≤ 20 := by rw [← hv94]; exact ar_at A_137 _
                clear hv94
                refine wa_iload rfl ?_
                refine wa_irem (by ((try simp only [vp_in_iff, Int32.lt_iff_toInt_lt, Int32.le_iff_toInt_le, ← Int32.toInt_inj, Int32.reduceToInt, n_1, n_2, n_8, Int32.toNatClampNeg, Int64.lt_iff_toInt_lt, Int64.le_iff_toInt_le, ← Int64.toInt_inj, Int64.reduceToInt, Int32.toInt_toInt64, lg_cmp_ge, lg_cmp_le, lg_cmp_gt, lg_cmp_lt, lg_cmp_eq, Bool.false_eq_true, Bool.true_eq_false, reduceCtorEq, false_iff, true_iff, iff_true, iff_false, and_true, true_and, and_false, false_and, reduceIte, ite_true, ite_false, eq_self] at *)) <;> omega) ?_
                refine wa_top (fun v95 hv95 => ?_)
                first | (refine i_remK hv95 ?_ ?_ (fun tv95 => ?_); (((try simp only [vp_in_iff, Int32.lt_iff_toInt_lt, Int32.le_iff_toInt_le, ← Int32.toInt_inj, Int32.reduceToInt, n_1, n_2, n_8, Int32.toNatClampNeg, Int64.lt_iff_toInt_lt, Int64.le_iff_toInt_le, ← Int64.toInt_inj, Int64.reduceToInt, Int32.toInt_toInt64, lg_cmp_ge, lg_cmp_le, lg_cmp_gt, lg_cmp_lt, lg_cmp_eq, Bool.false_eq_true, Bool.true_eq_false, reduceCtorEq, false_iff, true_iff, iff_true, iff_false, and_true, true_and, and_false, false_and, reduceIte, ite_true, ite_false, eq_self] at *)) <;> omega); (((try simp only [vp_in_iff, Int32.lt_iff_toInt_lt, Int32.le_iff_toInt_le, ← Int32.toInt_inj, Int32.reduceToInt, n_1, n_2, n_8, Int32.toNatClampNeg, Int64.lt_iff_toInt_lt, Int64.le_iff_toInt_le, ← Int64.toInt_inj, Int64.reduceToInt, Int32.toInt_toInt64, lg_cmp_ge, lg_cmp_le, lg_cmp_gt, lg_cmp_lt, lg_cmp_eq, Bool.false_eq_true, Bool.true_eq_false, reduceCtorEq, false_iff, true_iff, iff_true, iff_false, and_true, true_and, and_false, false_and, reduceIte, ite_true, ite_false, eq_self] at *)) <;> omega)) | (refine i_remK2 hv95 ?_ (fun tv95 => ?_); (((try simp only [vp_in_iff, Int32.lt_iff_toInt_lt, Int32.le_iff_toInt_le, ← Int32.toInt_inj, Int32.reduceToInt, n_1, n_2, n_8, Int32.toNatClampNeg, Int64.lt_iff_toInt_lt, Int64.le_iff_toInt_le, ← Int64.toInt_inj, Int64.reduceToInt, Int32.toInt_toInt64, lg_cmp_ge, lg_cmp_le, lg_cmp_gt, lg_cmp_lt, lg_cmp_eq, Bool.false_eq_true, Bool.true_eq_false, reduceCtorEq, false_iff, true_iff, iff_true, iff_false, and_true, true_and, and_false, false_and, reduceIte, ite_true, ite_false, eq_self] at *)) <;> omega)) | skip
                clear hv95
                refine wa_goto o_X12_halved_83 (by decide) ?_
                refine wa_iadd ?_
                refine wa_top (fun v96 hv96 => ?_)
                first | (refine i_addK hv96 ?_ ?_ (fun tv96 => ?_); (((try simp only [vp_in_iff, Int32.lt_iff_toInt_lt, Int32.le_iff_toInt_le, ← Int32.toInt_inj, Int32.reduceToInt, n_1, n_2, n_8, Int32.toNatClampNeg, Int64.lt_iff_toInt_lt, Int64.le_iff_toInt_le, ← Int64.toInt_inj, Int64.reduceToInt, Int32.toInt_toInt64, lg_cmp_ge, lg_cmp_le, lg_cmp_gt, lg_cmp_lt, lg_cmp_eq, Bool.false_eq_true, Bool.true_eq_false, reduceCtorEq, false_iff, true_iff, iff_true, iff_false, and_true, true_and, and_false, false_and, reduceIte, ite_true, ite_false, eq_self] at *)) <;> omega); (((try simp only [vp_in_iff, Int32.lt_iff_toInt_lt, Int32.le_iff_toInt_le, ← Int32.toInt_inj, Int32.reduceToInt, n_1, n_2, n_8, Int32.toNatClampNeg, Int64.lt_iff_toInt_lt, Int64.le_iff_toInt_le, ← Int64.toInt_inj, Int64.reduceToInt, Int32.toInt_toInt64, lg_cmp_ge, lg_cmp_le, lg_cmp_gt, lg_cmp_lt, lg_cmp_eq, Bool.false_eq_true, Bool.true_eq_false, reduceCtorEq, false_iff, true_iff, iff_true, iff_false, and_true, true_and, and_false, false_and, reduceIte, ite_true, ite_false, eq_self] at *)) <;> omega)) | skip
                clear hv96
                refine wa_istoreD (lv' := [(4, .int v96), (0, .ref 84), (1, .int a0), (2, .int a1), (3, .int a2), (5, .int 0), (6, .int l6)]) (by decide) rfl ?_
                refine wa_iinc (v := (1)) (lv' := fun y97 => [(6, .int y97), (4, .int v96), (0, .ref 84), (1, .int a0), (2, .int a1), (3, .int a2), (5, .int 0)]) (by decide) rfl (by decide) (fun _ => rfl) (fun y97 hy97 => ?_)
                have ty97 := i_addT hy97.symm
                clear hy97
                refine wa_goto o_X12_halved_29 (by decide) ?_
                refine wa_pick [2, 3, 4, 5, 1, 6, 0] rfl ?_
                exact ih51 _ (by ((try simp only [vp_in_iff, Int32.lt_iff_toInt_lt, Int32.le_iff_toInt_le, ← Int32.toInt_inj, Int32.reduceToInt, n_1, n_2, n_8, Int32.toNatClampNeg, Int64.lt_iff_toInt_lt, Int64.le_iff_toInt_le, ← Int64.toInt_inj, Int64.reduceToInt, Int32.toInt_toInt64, lg_cmp_ge, lg_cmp_le, lg_cmp_gt, lg_cmp_lt, lg_cmp_eq, Bool.false_eq_true, Bool.true_eq_false, reduceCtorEq, false_iff, true_iff, iff_true, iff_false, and_true, true_and, and_false, false_and, reduceIte, ite_true, ite_false, eq_self] at *)) <;> omega) _ _ ⟨(by ((try simp only [vp_in_iff, Int32.lt_iff_toInt_lt, Int32.le_iff_toInt_le, ← Int32.toInt_inj, Int32.reduceToInt, n_1, n_2, n_8, Int32.toNatClampNeg, Int64.lt_iff_toInt_lt, Int64.le_iff_toInt_le, ← Int64.toInt_inj, Int64.reduceToInt, Int32.toInt_toInt64, lg_cmp_ge, lg_cmp_le, lg_cmp_gt, lg_cmp_lt, lg_cmp_eq, Bool.false_eq_true, Bool.true_eq_false, reduceCtorEq, false_iff, true_iff, iff_true, iff_false, and_true, true_and, and_false, false_and, reduceIte, ite_true, ite_false, eq_self] at *)) <;> omega), trivial⟩ rfl
      exact hi52 _ _ _ ⟨(by ((try simp only [vp_in_iff, Int32.lt_iff_toInt_lt, Int32.le_iff_toInt_le, ← Int32.toInt_inj, Int32.reduceToInt, n_1, n_2, n_8, Int32.toNatClampNeg, Int64.lt_iff_toInt_lt, Int64.le_iff_toInt_le, ← Int64.toInt_inj, Int64.reduceToInt, Int32.toInt_toInt64, lg_cmp_ge, lg_cmp_le, lg_cmp_gt, lg_cmp_lt, lg_cmp_eq, Bool.false_eq_true, Bool.true_eq_false, reduceCtorEq, false_iff, true_iff, iff_true, iff_false, and_true, true_and, and_false, false_and, reduceIte, ite_true, ite_false, eq_self] at *)) <;> omega), trivial⟩ rfl
    · refine wa_iload_n (i := 2) rfl rfl ?_
      refine wa_bipush (v := 16) (by decide) ?_
      refine wa_idiv (by ((try simp only [vp_in_iff, Int32.lt_iff_toInt_lt, Int32.le_iff_toInt_le, ← Int32.toInt_inj, Int32.reduceToInt, n_1, n_2, n_8, Int32.toNatClampNeg, Int64.lt_iff_toInt_lt, Int64.le_iff_toInt_le, ← Int64.toInt_inj, Int64.reduceToInt, Int32.toInt_toInt64, lg_cmp_ge, lg_cmp_le, lg_cmp_gt, lg_cmp_lt, lg_cmp_eq, Bool.false_eq_true, Bool.true_eq_false, reduceCtorEq, false_iff, true_iff, iff_true, iff_false, and_true, true_and, and_false, false_and, reduceIte, ite_true, ite_false, eq_self] at *)) <;> omega) ?_
      refine wa_top (fun v98 hv98 => ?_)
      first | (refine i_divK hv98 ?_ ?_ (fun tv98 => ?_); (((try simp only [vp_in_iff, Int32.lt_iff_toInt_lt, Int32.le_iff_toInt_le, ← Int32.toInt_inj, Int32.reduceToInt, n_1, n_2, n_8, Int32.toNatClampNeg, Int64.lt_iff_toInt_lt, Int64.le_iff_toInt_le, ← Int64.toInt_inj, Int64.reduceToInt, Int32.toInt_toInt64, lg_cmp_ge, lg_cmp_le, lg_cmp_gt, lg_cmp_lt, lg_cmp_eq, Bool.false_eq_true, Bool.true_eq_false, reduceCtorEq, false_iff, true_iff, iff_true, iff_false, and_true, true_and, and_false, false_and, reduceIte, ite_true, ite_false, eq_self] at *)) <;> omega); (((try simp only [vp_in_iff, Int32.lt_iff_toInt_lt, Int32.le_iff_toInt_le, ← Int32.toInt_inj, Int32.reduceToInt, n_1, n_2, n_8, Int32.toNatClampNeg, Int64.lt_iff_toInt_lt, Int64.le_iff_toInt_le, ← Int64.toInt_inj, Int64.reduceToInt, Int32.toInt_toInt64, lg_cmp_ge, lg_cmp_le, lg_cmp_gt, lg_cmp_lt, lg_cmp_eq, Bool.false_eq_true, Bool.true_eq_false, reduceCtorEq, false_iff, true_iff, iff_true, iff_false, and_true, true_and, and_false, false_and, reduceIte, ite_true, ite_false, eq_self] at *)) <;> omega)) | skip
      clear hv98
      refine wa_goto o_X12_halved_24 (by decide) ?_
      refine wa_istoreD (lv' := [(5, .int v98), (4, .int 0), (0, .ref 84), (1, .int a0), (2, .int a1), (3, .int a2)]) (by decide) rfl ?_
      refine wa_iconst (v := 0) (by decide) ?_
      refine wa_istoreD (lv' := [(6, .int 0), (5, .int v98), (4, .int 0), (0, .ref 84), (1, .int a0), (2, .int a1), (3, .int a2)]) (by decide) rfl ?_
      refine wa_pick [3, 4, 5, 6, 2, 1, 0] rfl ?_
      have hi100 : ∀ (n9_29 : Nat) (l4 : Int32) (l6 : Int32), ((0 ≤ l6.toInt) ∧ (True)) → (2147483647 - l6.toInt).toNat = n9_29 → WA G M_X12_halved (ZM G M_X12_halved d (fun r σ' => ∃ x : Int32, r = some (.int x) ∧ σ = σ' ∧ ((gi σ 135 (a0).toNatClampNeg).toInt ≤ 0 ∨ x.toInt < 0 ∨ (16 ≤ x.toInt ∧ x.toInt ≤ 207)) ∧ True)) B_X12_halved_29 [(0, .ref 84), (1, .int a0), (2, .int a1), (3, .int a2), (4, .int l4), (5, .int v98), (6, .int l6)] [] σ := by
        intro n9_29
        induction n9_29 using Nat.strongRecOn with
        | _ n9_29 ih99 =>
          intro l4 l6  i9 m9_29
          obtain ⟨jhi100_0, -⟩ := i9
          have ul4 := Int32.toInt_lt l4
          have wl4 := Int32.le_toInt l4
          have ul6 := Int32.toInt_lt l6
          have wl6 := Int32.le_toInt l6
          refine wa_iload rfl ?_
          refine wa_aload_n (i := 0) rfl rfl ?_
          refine wa_geti ck_12 fl_12_815 ly_84 ?_
          refine wa_icmp_ge o_X12_halved_92 (by decide) (fun h101 => ?_) (fun h101 => ?_)
          · refine wa_aload_n (i := 0) rfl rfl ?_
            refine wa_getr ck_12 fl_12_298 ly_84 rf_84_118 ?_
            refine wa_iload_n (i := 1) rfl rfl ?_
            refine wa_iald ly_135 (by ((try simp only [vp_in_iff, Int32.lt_iff_toInt_lt, Int32.le_iff_toInt_le, ← Int32.toInt_inj, Int32.reduceToInt, n_1, n_2, n_8, Int32.toNatClampNeg, Int64.lt_iff_toInt_lt, Int64.le_iff_toInt_le, ← Int64.toInt_inj, Int64.reduceToInt, Int32.toInt_toInt64, lg_cmp_ge, lg_cmp_le, lg_cmp_gt, lg_cmp_lt, lg_cmp_eq, Bool.false_eq_true, Bool.true_eq_false, reduceCtorEq, false_iff, true_iff, iff_true, iff_false, and_true, true_and, and_false, false_and, reduceIte, ite_true, ite_false, eq_self] at *)) <;> omega) ?_
            refine wa_top (fun v102 hv102 => ?_)
            have rv102 : 0 ≤ v102.toInt ∧ v102.toInt ≤ 12 := by rw [← hv102]; exact ar_at A_135 _
            have qv102 := hv102
            clear hv102
            refine wa_if_ne o_X12_halved_108 (by decide) (fun h103 => ?_) (fun h103 => ?_)
            · refine wa_iload_n (i := 2) rfl rfl ?_
              refine wa_if_ge o_X12_halved_114 (by decide) (fun h104 => ?_) (fun h104 => ?_)
              · refine wa_iload_n (i := 2) rfl rfl ?_
                refine wa_bipush (v := 16) (by decide) ?_
                refine wa_irem (by ((try simp only [vp_in_iff, Int32.lt_iff_toInt_lt, Int32.le_iff_toInt_le, ← Int32.toInt_inj, Int32.reduceToInt, n_1, n_2, n_8, Int32.toNatClampNeg, Int64.lt_iff_toInt_lt, Int64.le_iff_toInt_le, ← Int64.toInt_inj, Int64.reduceToInt, Int32.toInt_toInt64, lg_cmp_ge, lg_cmp_le, lg_cmp_gt, lg_cmp_lt, lg_cmp_eq, Bool.false_eq_true, Bool.true_eq_false, reduceCtorEq, false_iff, true_iff, iff_true, iff_false, and_true, true_and, and_false, false_and, reduceIte, ite_true, ite_false, eq_self] at *)) <;> omega) ?_
                refine wa_top (fun v105 hv105 => ?_)
                first | (refine i_remK hv105 ?_ ?_ (fun tv105 => ?_); (((try simp only [vp_in_iff, Int32.lt_iff_toInt_lt, Int32.le_iff_toInt_le, ← Int32.toInt_inj, Int32.reduceToInt, n_1, n_2, n_8, Int32.toNatClampNeg, Int64.lt_iff_toInt_lt, Int64.le_iff_toInt_le, ← Int64.toInt_inj, Int64.reduceToInt, Int32.toInt_toInt64, lg_cmp_ge, lg_cmp_le, lg_cmp_gt, lg_cmp_lt, lg_cmp_eq, Bool.false_eq_true, Bool.true_eq_false, reduceCtorEq, false_iff, true_iff, iff_true, iff_false, and_true, true_and, and_false, false_and, reduceIte, ite_true, ite_false, eq_self] at *)) <;> omega); (((try simp only [vp_in_iff, Int32.lt_iff_toInt_lt, Int32.le_iff_toInt_le, ← Int32.toInt_inj, Int32.reduceToInt, n_1, n_2, n_8, Int32.toNatClampNeg, Int64.lt_iff_toInt_lt, Int64.le_iff_toInt_le, ← Int64.toInt_inj, Int64.reduceToInt, Int32.toInt_toInt64, lg_cmp_ge, lg_cmp_le, lg_cmp_gt, lg_cmp_lt, lg_cmp_eq, Bool.false_eq_true, Bool.true_eq_false, reduceCtorEq, false_iff, true_iff, iff_true, iff_false, and_true, true_and, and_false, false_and, reduceIte, ite_true, ite_false, eq_self] at *)) <;> omega)) | (refine i_remK2 hv105 ?_ (fun tv105 => ?_); (((try simp only [vp_in_iff, Int32.lt_iff_toInt_lt, Int32.le_iff_toInt_le, ← Int32.toInt_inj, Int32.reduceToInt, n_1, n_2, n_8, Int32.toNatClampNeg, Int64.lt_iff_toInt_lt, Int64.le_iff_toInt_le, ← Int64.toInt_inj, Int64.reduceToInt, Int32.toInt_toInt64, lg_cmp_ge, lg_cmp_le, lg_cmp_gt, lg_cmp_lt, lg_cmp_eq, Bool.false_eq_true, Bool.true_eq_false, reduceCtorEq, false_iff, true_iff, iff_true, iff_false, and_true, true_and, and_false, false_and, reduceIte, ite_true, ite_false, eq_self] at *)) <;> omega)) | skip
                clear hv105
                refine wa_iload rfl ?_
                refine wa_iadd ?_
                refine wa_top (fun v106 hv106 => ?_)
                first | (refine i_addK hv106 ?_ ?_ (fun tv106 => ?_); (((try simp only [vp_in_iff, Int32.lt_iff_toInt_lt, Int32.le_iff_toInt_le, ← Int32.toInt_inj, Int32.reduceToInt, n_1, n_2, n_8, Int32.toNatClampNeg, Int64.lt_iff_toInt_lt, Int64.le_iff_toInt_le, ← Int64.toInt_inj, Int64.reduceToInt, Int32.toInt_toInt64, lg_cmp_ge, lg_cmp_le, lg_cmp_gt, lg_cmp_lt, lg_cmp_eq, Bool.false_eq_true, Bool.true_eq_false, reduceCtorEq, false_iff, true_iff, iff_true, iff_false, and_true, true_and, and_false, false_and, reduceIte, ite_true, ite_false, eq_self] at *)) <;> omega); (((try simp only [vp_in_iff, Int32.lt_iff_toInt_lt, Int32.le_iff_toInt_le, ← Int32.toInt_inj, Int32.reduceToInt, n_1, n_2, n_8, Int32.toNatClampNeg, Int64.lt_iff_toInt_lt, Int64.le_iff_toInt_le, ← Int64.toInt_inj, Int64.reduceToInt, Int32.toInt_toInt64, lg_cmp_ge, lg_cmp_le, lg_cmp_gt, lg_cmp_lt, lg_cmp_eq, Bool.false_eq_true, Bool.true_eq_false, reduceCtorEq, false_iff, true_iff, iff_true, iff_false, and_true, true_and, and_false, false_and, reduceIte, ite_true, ite_false, eq_self] at *)) <;> omega)) | skip
                clear hv106
                refine wa_istoreD (lv' := [(6, .int v106), (0, .ref 84), (1, .int a0), (2, .int a1), (3, .int a2), (4, .int l4), (5, .int v98)]) (by decide) rfl ?_
                refine wa_iload rfl ?_
                refine wa_iconst (v := 2) (by decide) ?_
                refine wa_irem (by ((try simp only [vp_in_iff, Int32.lt_iff_toInt_lt, Int32.le_iff_toInt_le, ← Int32.toInt_inj, Int32.reduceToInt, n_1, n_2, n_8, Int32.toNatClampNeg, Int64.lt_iff_toInt_lt, Int64.le_iff_toInt_le, ← Int64.toInt_inj, Int64.reduceToInt, Int32.toInt_toInt64, lg_cmp_ge, lg_cmp_le, lg_cmp_gt, lg_cmp_lt, lg_cmp_eq, Bool.false_eq_true, Bool.true_eq_false, reduceCtorEq, false_iff, true_iff, iff_true, iff_false, and_true, true_and, and_false, false_and, reduceIte, ite_true, ite_false, eq_self] at *)) <;> omega) ?_
                refine wa_top (fun v107 hv107 => ?_)
                first | (refine i_remK hv107 ?_ ?_ (fun tv107 => ?_); (((try simp only [vp_in_iff, Int32.lt_iff_toInt_lt, Int32.le_iff_toInt_le, ← Int32.toInt_inj, Int32.reduceToInt, n_1, n_2, n_8, Int32.toNatClampNeg, Int64.lt_iff_toInt_lt, Int64.le_iff_toInt_le, ← Int64.toInt_inj, Int64.reduceToInt, Int32.toInt_toInt64, lg_cmp_ge, lg_cmp_le, lg_cmp_gt, lg_cmp_lt, lg_cmp_eq, Bool.false_eq_true, Bool.true_eq_false, reduceCtorEq, false_iff, true_iff, iff_true, iff_false, and_true, true_and, and_false, false_and, reduceIte, ite_true, ite_false, eq_self] at *)) <;> omega); (((try simp only [vp_in_iff, Int32.lt_iff_toInt_lt, Int32.le_iff_toInt_le, ← Int32.toInt_inj, Int32.reduceToInt, n_1, n_2, n_8, Int32.toNatClampNeg, Int64.lt_iff_toInt_lt, Int64.le_iff_toInt_le, ← Int64.toInt_inj, Int64.reduceToInt, Int32.toInt_toInt64, lg_cmp_ge, lg_cmp_le, lg_cmp_gt, lg_cmp_lt, lg_cmp_eq, Bool.false_eq_true, Bool.true_eq_false, reduceCtorEq, false_iff, true_iff, iff_true, iff_false, and_true, true_and, and_false, false_and, reduceIte, ite_true, ite_false, eq_self] at *)) <;> omega)) | (refine i_remK2 hv107 ?_ (fun tv107 => ?_); (((try simp only [vp_in_iff, Int32.lt_iff_toInt_lt, Int32.le_iff_toInt_le, ← Int32.toInt_inj, Int32.reduceToInt, n_1, n_2, n_8, Int32.toNatClampNeg, Int64.lt_iff_toInt_lt, Int64.le_iff_toInt_le, ← Int64.toInt_inj, Int64.reduceToInt, Int32.toInt_toInt64, lg_cmp_ge, lg_cmp_le, lg_cmp_gt, lg_cmp_lt, lg_cmp_eq, Bool.false_eq_true, Bool.true_eq_false, reduceCtorEq, false_iff, true_iff, iff_true, iff_false, and_true, true_and, and_false, false_and, reduceIte, ite_true, ite_false, eq_self] at *)) <;> omega)) | skip
                clear hv107
                refine wa_if_ne o_X12_halved_171 (by decide) (fun h108 => ?_) (fun h108 => ?_)
                · refine wa_bipush (v := 16) (by decide) ?_
                  refine wa_iload rfl ?_
                  refine wa_imul ?_
                  refine wa_top (fun v109 hv109 => ?_)
                  first | (refine i_mulK hv109 ?_ ?_ (fun tv109 => ?_); (((try simp only [vp_in_iff, Int32.lt_iff_toInt_lt, Int32.le_iff_toInt_le, ← Int32.toInt_inj, Int32.reduceToInt, n_1, n_2, n_8, Int32.toNatClampNeg, Int64.lt_iff_toInt_lt, Int64.le_iff_toInt_le, ← Int64.toInt_inj, Int64.reduceToInt, Int32.toInt_toInt64, lg_cmp_ge, lg_cmp_le, lg_cmp_gt, lg_cmp_lt, lg_cmp_eq, Bool.false_eq_true, Bool.true_eq_false, reduceCtorEq, false_iff, true_iff, iff_true, iff_false, and_true, true_and, and_false, false_and, reduceIte, ite_true, ite_false, eq_self] at *)) <;> omega); (((try simp only [vp_in_iff, Int32.lt_iff_toInt_lt, Int32.le_iff_toInt_le, ← Int32.toInt_inj, Int32.reduceToInt, n_1, n_2, n_8, Int32.toNatClampNeg, Int64.lt_iff_toInt_lt, Int64.le_iff_toInt_le, ← Int64.toInt_inj, Int64.reduceToInt, Int32.toInt_toInt64, lg_cmp_ge, lg_cmp_le, lg_cmp_gt, lg_cmp_lt, lg_cmp_eq, Bool.false_eq_true, Bool.true_eq_false, reduceCtorEq, false_iff, true_iff, iff_true, iff_false, and_true, true_and, and_false, false_and, reduceIte, ite_true, ite_false, eq_self] at *)) <;> omega)) | skip
                  clear hv109
                  refine wa_iload rfl ?_
                  refine wa_iconst (v := 2) (by decide) ?_
                  refine wa_irem (by ((try simp only [vp_in_iff, Int32.lt_iff_toInt_lt, Int32.le_iff_toInt_le, ← Int32.toInt_inj, Int32.reduceToInt, n_1, n_2, n_8, Int32.toNatClampNeg, Int64.lt_iff_toInt_lt, Int64.le_iff_toInt_le, ← Int64.toInt_inj, Int64.reduceToInt, Int32.toInt_toInt64, lg_cmp_ge, lg_cmp_le, lg_cmp_gt, lg_cmp_lt, lg_cmp_eq, Bool.false_eq_true, Bool.true_eq_false, reduceCtorEq, false_iff, true_iff, iff_true, iff_false, and_true, true_and, and_false, false_and, reduceIte, ite_true, ite_false, eq_self] at *)) <;> omega) ?_
                  refine wa_top (fun v110 hv110 => ?_)
                  first | (refine i_remK hv110 ?_ ?_ (fun tv110 => ?_); (((try simp only [vp_in_iff, Int32.lt_iff_toInt_lt, Int32.le_iff_toInt_le, ← Int32.toInt_inj, Int32.reduceToInt, n_1, n_2, n_8, Int32.toNatClampNeg, Int64.lt_iff_toInt_lt, Int64.le_iff_toInt_le, ← Int64.toInt_inj, Int64.reduceToInt, Int32.toInt_toInt64, lg_cmp_ge, lg_cmp_le, lg_cmp_gt, lg_cmp_lt, lg_cmp_eq, Bool.false_eq_true, Bool.true_eq_false, reduceCtorEq, false_iff, true_iff, iff_true, iff_false, and_true, true_and, and_false, false_and, reduceIte, ite_true, ite_false, eq_self] at *)) <;> omega); (((try simp only [vp_in_iff, Int32.lt_iff_toInt_lt, Int32.le_iff_toInt_le, ← Int32.toInt_inj, Int32.reduceToInt, n_1, n_2, n_8, Int32.toNatClampNeg, Int64.lt_iff_toInt_lt, Int64.le_iff_toInt_le, ← Int64.toInt_inj, Int64.reduceToInt, Int32.toInt_toInt64, lg_cmp_ge, lg_cmp_le, lg_cmp_gt, lg_cmp_lt, lg_cmp_eq, Bool.false_eq_true, Bool.true_eq_false, reduceCtorEq, false_iff, true_iff, iff_true, iff_false, and_true, true_and, and_false, false_and, reduceIte, ite_true, ite_false, eq_self] at *)) <;> omega)) | (refine i_remK2 hv110 ?_ (fun tv110 => ?_); (((try simp only [vp_in_iff, Int32.lt_iff_toInt_lt, Int32.le_iff_toInt_le, ← Int32.toInt_inj, Int32.reduceToInt, n_1, n_2, n_8, Int32.toNatClampNeg, Int64.lt_iff_toInt_lt, Int64.le_iff_toInt_le, ← Int64.toInt_inj, Int64.reduceToInt, Int32.toInt_toInt64, lg_cmp_ge, lg_cmp_le, lg_cmp_gt, lg_cmp_lt, lg_cmp_eq, Bool.false_eq_true, Bool.true_eq_false, reduceCtorEq, false_iff, true_iff, iff_true, iff_false, and_true, true_and, and_false, false_and, reduceIte, ite_true, ite_false, eq_self] at *)) <;> omega)) | skip
                  clear hv110
                  refine wa_if_ne o_X12_halved_190 (by decide) (fun h111 => ?_) (fun h111 => ?_)
                  · refine wa_iload rfl ?_
                    refine wa_iload rfl ?_
                    refine wa_iadd ?_
                    refine wa_top (fun v112 hv112 => ?_)
                    first | (refine i_addK hv112 ?_ ?_ (fun tv112 => ?_); (((try simp only [vp_in_iff, Int32.lt_iff_toInt_lt, Int32.le_iff_toInt_le, ← Int32.toInt_inj, Int32.reduceToInt, n_1, n_2, n_8, Int32.toNatClampNeg, Int64.lt_iff_toInt_lt, Int64.le_iff_toInt_le, ← Int64.toInt_inj, Int64.reduceToInt, Int32.toInt_toInt64, lg_cmp_ge, lg_cmp_le, lg_cmp_gt, lg_cmp_lt, lg_cmp_eq, Bool.false_eq_true, Bool.true_eq_false, reduceCtorEq, false_iff, true_iff, iff_true, iff_false, and_true, true_and, and_false, false_and, reduceIte, ite_true, ite_false, eq_self] at *)) <;> omega); (((try simp only [vp_in_iff, Int32.lt_iff_toInt_lt, Int32.le_iff_toInt_le, ← Int32.toInt_inj, Int32.reduceToInt, n_1, n_2, n_8, Int32.toNatClampNeg, Int64.lt_iff_toInt_lt, Int64.le_iff_toInt_le, ← Int64.toInt_inj, Int64.reduceToInt, Int32.toInt_toInt64, lg_cmp_ge, lg_cmp_le, lg_cmp_gt, lg_cmp_lt, lg_cmp_eq, Bool.false_eq_true, Bool.true_eq_false, reduceCtorEq, false_iff, true_iff, iff_true, iff_false, and_true, true_and, and_false, false_and, reduceIte, ite_true, ite_false, eq_self] at *)) <;> omega)) | skip
                    clear hv112
                    refine wa_iconst (v := 2) (by decide) ?_
                    refine wa_idiv (by ((try simp only [vp_in_iff, Int32.lt_iff_toInt_lt, Int32.le_iff_toInt_le, ← Int32.toInt_inj, Int32.reduceToInt, n_1, n_2, n_8, Int32.toNatClampNeg, Int64.lt_iff_toInt_lt, Int64.le_iff_toInt_le, ← Int64.toInt_inj, Int64.reduceToInt, Int32.toInt_toInt64, lg_cmp_ge, lg_cmp_le, lg_cmp_gt, lg_cmp_lt, lg_cmp_eq, Bool.false_eq_true, Bool.true_eq_false, reduceCtorEq, false_iff, true_iff, iff_true, iff_false, and_true, true_and, and_false, false_and, reduceIte, ite_true, ite_false, eq_self] at *)) <;> omega) ?_
                    refine wa_top (fun v113 hv113 => ?_)
                    first | (refine i_divK hv113 ?_ ?_ (fun tv113 => ?_); (((try simp only [vp_in_iff, Int32.lt_iff_toInt_lt, Int32.le_iff_toInt_le, ← Int32.toInt_inj, Int32.reduceToInt, n_1, n_2, n_8, Int32.toNatClampNeg, Int64.lt_iff_toInt_lt, Int64.le_iff_toInt_le, ← Int64.toInt_inj, Int64.reduceToInt, Int32.toInt_toInt64, lg_cmp_ge, lg_cmp_le, lg_cmp_gt, lg_cmp_lt, lg_cmp_eq, Bool.false_eq_true, Bool.true_eq_false, reduceCtorEq, false_iff, true_iff, iff_true, iff_false, and_true, true_and, and_false, false_and, reduceIte, ite_true, ite_false, eq_self] at *)) <;> omega); (((try simp only [vp_in_iff, Int32.lt_iff_toInt_lt, Int32.le_iff_toInt_le, ← Int32.toInt_inj, Int32.reduceToInt, n_1, n_2, n_8, Int32.toNatClampNeg, Int64.lt_iff_toInt_lt, Int64.le_iff_toInt_le, ← Int64.toInt_inj, Int64.reduceToInt, Int32.toInt_toInt64, lg_cmp_ge, lg_cmp_le, lg_cmp_gt, lg_cmp_lt, lg_cmp_eq, Bool.false_eq_true, Bool.true_eq_false, reduceCtorEq, false_iff, true_iff, iff_true, iff_false, and_true, true_and, and_false, false_and, reduceIte, ite_true, ite_false, eq_self] at *)) <;> omega)) | skip
                    clear hv113
                    refine wa_iload rfl ?_
                    refine wa_irem (by ((try simp only [vp_in_iff, Int32.lt_iff_toInt_lt, Int32.le_iff_toInt_le, ← Int32.toInt_inj, Int32.reduceToInt, n_1, n_2, n_8, Int32.toNatClampNeg, Int64.lt_iff_toInt_lt, Int64.le_iff_toInt_le, ← Int64.toInt_inj, Int64.reduceToInt, Int32.toInt_toInt64, lg_cmp_ge, lg_cmp_le, lg_cmp_gt, lg_cmp_lt, lg_cmp_eq, Bool.false_eq_true, Bool.true_eq_false, reduceCtorEq, false_iff, true_iff, iff_true, iff_false, and_true, true_and, and_false, false_and, reduceIte, ite_true, ite_false, eq_self] at *)) <;> omega) ?_
                    refine wa_top (fun v114 hv114 => ?_)
                    first | (refine i_remK hv114 ?_ ?_ (fun tv114 => ?_); (((try simp only [vp_in_iff, Int32.lt_iff_toInt_lt, Int32.le_iff_toInt_le, ← Int32.toInt_inj, Int32.reduceToInt, n_1, n_2, n_8, Int32.toNatClampNeg, Int64.lt_iff_toInt_lt, Int64.le_iff_toInt_le, ← Int64.toInt_inj, Int64.reduceToInt, Int32.toInt_toInt64, lg_cmp_ge, lg_cmp_le, lg_cmp_gt, lg_cmp_lt, lg_cmp_eq, Bool.false_eq_true, Bool.true_eq_false, reduceCtorEq, false_iff, true_iff, iff_true, iff_false, and_true, true_and, and_false, false_and, reduceIte, ite_true, ite_false, eq_self] at *)) <;> omega); (((try simp only [vp_in_iff, Int32.lt_iff_toInt_lt, Int32.le_iff_toInt_le, ← Int32.toInt_inj, Int32.reduceToInt, n_1, n_2, n_8, Int32.toNatClampNeg, Int64.lt_iff_toInt_lt, Int64.le_iff_toInt_le, ← Int64.toInt_inj, Int64.reduceToInt, Int32.toInt_toInt64, lg_cmp_ge, lg_cmp_le, lg_cmp_gt, lg_cmp_lt, lg_cmp_eq, Bool.false_eq_true, Bool.true_eq_false, reduceCtorEq, false_iff, true_iff, iff_true, iff_false, and_true, true_and, and_false, false_and, reduceIte, ite_true, ite_false, eq_self] at *)) <;> omega)) | (refine i_remK2 hv114 ?_ (fun tv114 => ?_); (((try simp only [vp_in_iff, Int32.lt_iff_toInt_lt, Int32.le_iff_toInt_le, ← Int32.toInt_inj, Int32.reduceToInt, n_1, n_2, n_8, Int32.toNatClampNeg, Int64.lt_iff_toInt_lt, Int64.le_iff_toInt_le, ← Int64.toInt_inj, Int64.reduceToInt, Int32.toInt_toInt64, lg_cmp_ge, lg_cmp_le, lg_cmp_gt, lg_cmp_lt, lg_cmp_eq, Bool.false_eq_true, Bool.true_eq_false, reduceCtorEq, false_iff, true_iff, iff_true, iff_false, and_true, true_and, and_false, false_and, reduceIte, ite_true, ite_false, eq_self] at *)) <;> omega)) | skip
                    clear hv114
                    refine wa_iadd ?_
                    refine wa_top (fun v115 hv115 => ?_)
                    first | (refine i_addK hv115 ?_ ?_ (fun tv115 => ?_); (((try simp only [vp_in_iff, Int32.lt_iff_toInt_lt, Int32.le_iff_toInt_le, ← Int32.toInt_inj, Int32.reduceToInt, n_1, n_2, n_8, Int32.toNatClampNeg, Int64.lt_iff_toInt_lt, Int64.le_iff_toInt_le, ← Int64.toInt_inj, Int64.reduceToInt, Int32.toInt_toInt64, lg_cmp_ge, lg_cmp_le, lg_cmp_gt, lg_cmp_lt, lg_cmp_eq, Bool.false_eq_true, Bool.true_eq_false, reduceCtorEq, false_iff, true_iff, iff_true, iff_false, and_true, true_and, and_false, false_and, reduceIte, ite_true, ite_false, eq_self] at *)) <;> omega); (((try simp only [vp_in_iff, Int32.lt_iff_toInt_lt, Int32.le_iff_toInt_le, ← Int32.toInt_inj, Int32.reduceToInt, n_1, n_2, n_8, Int32.toNatClampNeg, Int64.lt_iff_toInt_lt, Int64.le_iff_toInt_le, ← Int64.toInt_inj, Int64.reduceToInt, Int32.toInt_toInt64, lg_cmp_ge, lg_cmp_le, lg_cmp_gt, lg_cmp_lt, lg_cmp_eq, Bool.false_eq_true, Bool.true_eq_false, reduceCtorEq, false_iff, true_iff, iff_true, iff_false, and_true, true_and, and_false, false_and, reduceIte, ite_true, ite_false, eq_self] at *)) <;> omega)) | skip
                    clear hv115
                    refine wa_ireturn rfl rfl ?_
                    exact ⟨_, rfl, rfl, (by ((try simp only [vp_in_iff, Int32.lt_iff_toInt_lt, Int32.le_iff_toInt_le, ← Int32.toInt_inj, Int32.reduceToInt, n_1, n_2, n_8, Int32.toNatClampNeg, Int64.lt_iff_toInt_lt, Int64.le_iff_toInt_le, ← Int64.toInt_inj, Int64.reduceToInt, Int32.toInt_toInt64, lg_cmp_ge, lg_cmp_le, lg_cmp_gt, lg_cmp_lt, lg_cmp_eq, Bool.false_eq_true, Bool.true_eq_false, reduceCtorEq, false_iff, true_iff, iff_true, iff_false, and_true, true_and, and_false, false_and, reduceIte, ite_true, ite_false, eq_self] at *)) <;> omega), trivial⟩
                  · refine wa_iload rfl ?_
                    refine wa_iconst (v := 2) (by decide) ?_
                    refine wa_idiv (by ((try simp only [vp_in_iff, Int32.lt_iff_toInt_lt, Int32.le_iff_toInt_le, ← Int32.toInt_inj, Int32.reduceToInt, n_1, n_2, n_8, Int32.toNatClampNeg, Int64.lt_iff_toInt_lt, Int64.le_iff_toInt_le, ← Int64.toInt_inj, Int64.reduceToInt, Int32.toInt_toInt64, lg_cmp_ge, lg_cmp_le, lg_cmp_gt, lg_cmp_lt, lg_cmp_eq, Bool.false_eq_true, Bool.true_eq_false, reduceCtorEq, false_iff, true_iff, iff_true, iff_false, and_true, true_and, and_false, false_and, reduceIte, ite_true, ite_false, eq_self] at *)) <;> omega) ?_
                    refine wa_top (fun v116 hv116 => ?_)
                    first | (refine i_divK hv116 ?_ ?_ (fun tv116 => ?_); (((try simp only [vp_in_iff, Int32.lt_iff_toInt_lt, Int32.le_iff_toInt_le, ← Int32.toInt_inj, Int32.reduceToInt, n_1, n_2, n_8, Int32.toNatClampNeg, Int64.lt_iff_toInt_lt, Int64.le_iff_toInt_le, ← Int64.toInt_inj, Int64.reduceToInt, Int32.toInt_toInt64, lg_cmp_ge, lg_cmp_le, lg_cmp_gt, lg_cmp_lt, lg_cmp_eq, Bool.false_eq_true, Bool.true_eq_false, reduceCtorEq, false_iff, true_iff, iff_true, iff_false, and_true, true_and, and_false, false_and, reduceIte, ite_true, ite_false, eq_self] at *)) <;> omega); (((try simp only [vp_in_iff, Int32.lt_iff_toInt_lt, Int32.le_iff_toInt_le, ← Int32.toInt_inj, Int32.reduceToInt, n_1, n_2, n_8, Int32.toNatClampNeg, Int64.lt_iff_toInt_lt, Int64.le_iff_toInt_le, ← Int64.toInt_inj, Int64.reduceToInt, Int32.toInt_toInt64, lg_cmp_ge, lg_cmp_le, lg_cmp_gt, lg_cmp_lt, lg_cmp_eq, Bool.false_eq_true, Bool.true_eq_false, reduceCtorEq, false_iff, true_iff, iff_true, iff_false, and_true, true_and, and_false, false_and, reduceIte, ite_true, ite_false, eq_self] at *)) <;> omega)) | skip
                    clear hv116
                    refine wa_goto o_X12_halved_197 (by decide) ?_
                    refine wa_iload rfl ?_
                    refine wa_irem (by ((try simp only [vp_in_iff, Int32.lt_iff_toInt_lt, Int32.le_iff_toInt_le, ← Int32.toInt_inj, Int32.reduceToInt, n_1, n_2, n_8, Int32.toNatClampNeg, Int64.lt_iff_toInt_lt, Int64.le_iff_toInt_le, ← Int64.toInt_inj, Int64.reduceToInt, Int32.toInt_toInt64, lg_cmp_ge, lg_cmp_le, lg_cmp_gt, lg_cmp_lt, lg_cmp_eq, Bool.false_eq_true, Bool.true_eq_false, reduceCtorEq, false_iff, true_iff, iff_true, iff_false, and_true, true_and, and_false, false_and, reduceIte, ite_true, ite_false, eq_self] at *)) <;> omega) ?_
                    refine wa_top (fun v117 hv117 => ?_)
                    first | (refine i_remK hv117 ?_ ?_ (fun tv117 => ?_); (((try simp only [vp_in_iff, Int32.lt_iff_toInt_lt, Int32.le_iff_toInt_le, ← Int32.toInt_inj, Int32.reduceToInt, n_1, n_2, n_8, Int32.toNatClampNeg, Int64.lt_iff_toInt_lt, Int64.le_iff_toInt_le, ← Int64.toInt_inj, Int64.reduceToInt, Int32.toInt_toInt64, lg_cmp_ge, lg_cmp_le, lg_cmp_gt, lg_cmp_lt, lg_cmp_eq, Bool.false_eq_true, Bool.true_eq_false, reduceCtorEq, false_iff, true_iff, iff_true, iff_false, and_true, true_and, and_false, false_and, reduceIte, ite_true, ite_false, eq_self] at *)) <;> omega); (((try simp only [vp_in_iff, Int32.lt_iff_toInt_lt, Int32.le_iff_toInt_le, ← Int32.toInt_inj, Int32.reduceToInt, n_1, n_2, n_8, Int32.toNatClampNeg, Int64.lt_iff_toInt_lt, Int64.le_iff_toInt_le, ← Int64.toInt_inj, Int64.reduceToInt, Int32.toInt_toInt64, lg_cmp_ge, lg_cmp_le, lg_cmp_gt, lg_cmp_lt, lg_cmp_eq, Bool.false_eq_true, Bool.true_eq_false, reduceCtorEq, false_iff, true_iff, iff_true, iff_false, and_true, true_and, and_false, false_and, reduceIte, ite_true, ite_false, eq_self] at *)) <;> omega)) | (refine i_remK2 hv117 ?_ (fun tv117 => ?_); (((try simp only [vp_in_iff, Int32.lt_iff_toInt_lt, Int32.le_iff_toInt_le, ← Int32.toInt_inj, Int32.reduceToInt, n_1, n_2, n_8, Int32.toNatClampNeg, Int64.lt_iff_toInt_lt, Int64.le_iff_toInt_le, ← Int64.toInt_inj, Int64.reduceToInt, Int32.toInt_toInt64, lg_cmp_ge, lg_cmp_le, lg_cmp_gt, lg_cmp_lt, lg_cmp_eq, Bool.false_eq_true, Bool.true_eq_false, reduceCtorEq, false_iff, true_iff, iff_true, iff_false, and_true, true_and, and_false, false_and, reduceIte, ite_true, ite_false, eq_self] at *)) <;> omega)) | skip
                    clear hv117
                    refine wa_iadd ?_
                    refine wa_top (fun v118 hv118 => ?_)
                    first | (refine i_addK hv118 ?_ ?_ (fun tv118 => ?_); (((try simp only [vp_in_iff, Int32.lt_iff_toInt_lt, Int32.le_iff_toInt_le, ← Int32.toInt_inj, Int32.reduceToInt, n_1, n_2, n_8, Int32.toNatClampNeg, Int64.lt_iff_toInt_lt, Int64.le_iff_toInt_le, ← Int64.toInt_inj, Int64.reduceToInt, Int32.toInt_toInt64, lg_cmp_ge, lg_cmp_le, lg_cmp_gt, lg_cmp_lt, lg_cmp_eq, Bool.false_eq_true, Bool.true_eq_false, reduceCtorEq, false_iff, true_iff, iff_true, iff_false, and_true, true_and, and_false, false_and, reduceIte, ite_true, ite_false, eq_self] at *)) <;> omega); (((try simp only [vp_in_iff, Int32.lt_iff_toInt_lt, Int32.le_iff_toInt_le, ← Int32.toInt_inj, Int32.reduceToInt, n_1, n_2, n_8, Int32.toNatClampNeg, Int64.lt_iff_toInt_lt, Int64.le_iff_toInt_le, ← Int64.toInt_inj, Int64.reduceToInt, Int32.toInt_toInt64, lg_cmp_ge, lg_cmp_le, lg_cmp_gt, lg_cmp_lt, lg_cmp_eq, Bool.false_eq_true, Bool.true_eq_false, reduceCtorEq, false_iff, true_iff, iff_true, iff_false, and_true, true_and, and_false, false_and, reduceIte, ite_true, ite_false, eq_self] at *)) <;> omega)) | skip
                    clear hv118
                    refine wa_ireturn rfl rfl ?_
                    exact ⟨_, rfl, rfl, (by ((try simp only [vp_in_iff, Int32.lt_iff_toInt_lt, Int32.le_iff_toInt_le, ← Int32.toInt_inj, Int32.reduceToInt, n_1, n_2, n_8, Int32.toNatClampNeg, Int64.lt_iff_toInt_lt, Int64.le_iff_toInt_le, ← Int64.toInt_inj, Int64.reduceToInt, Int32.toInt_toInt64, lg_cmp_ge, lg_cmp_le, lg_cmp_gt, lg_cmp_lt, lg_cmp_eq, Bool.false_eq_true, Bool.true_eq_false, reduceCtorEq, false_iff, true_iff, iff_true, iff_false, and_true, true_and, and_false, false_and, reduceIte, ite_true, ite_false, eq_self] at *)) <;> omega), trivial⟩
                · refine wa_iload rfl ?_
                  refine wa_iconst (v := 2) (by decide) ?_
                  refine wa_irem (by ((try simp only [vp_in_iff, Int32.lt_iff_toInt_lt, Int32.le_iff_toInt_le, ← Int32.toInt_inj, Int32.reduceToInt, n_1, n_2, n_8, Int32.toNatClampNeg, Int64.lt_iff_toInt_lt, Int64.le_iff_toInt_le, ← Int64.toInt_inj, Int64.reduceToInt, Int32.toInt_toInt64, lg_cmp_ge, lg_cmp_le, lg_cmp_gt, lg_cmp_lt, lg_cmp_eq, Bool.false_eq_true, Bool.true_eq_false, reduceCtorEq, false_iff, true_iff, iff_true, iff_false, and_true, true_and, and_false, false_and, reduceIte, ite_true, ite_false, eq_self] at *)) <;> omega) ?_
                  refine wa_top (fun v119 hv119 => ?_)
                  first | (refine i_remK hv119 ?_ ?_ (fun tv119 => ?_); (((try simp only [vp_in_iff, Int32.lt_iff_toInt_lt, Int32.le_iff_toInt_le, ← Int32.toInt_inj, Int32.reduceToInt, n_1, n_2, n_8, Int32.toNatClampNeg, Int64.lt_iff_toInt_lt, Int64.le_iff_toInt_le, ← Int64.toInt_inj, Int64.reduceToInt, Int32.toInt_toInt64, lg_cmp_ge, lg_cmp_le, lg_cmp_gt, lg_cmp_lt, lg_cmp_eq, Bool.false_eq_true, Bool.true_eq_false, reduceCtorEq, false_iff, true_iff, iff_true, iff_false, and_true, true_and, and_false, false_and, reduceIte, ite_true, ite_false, eq_self] at *)) <;> omega); (((try simp only [vp_in_iff, Int32.lt_iff_toInt_lt, Int32.le_iff_toInt_le, ← Int32.toInt_inj, Int32.reduceToInt, n_1, n_2, n_8, Int32.toNatClampNeg, Int64.lt_iff_toInt_lt, Int64.le_iff_toInt_le, ← Int64.toInt_inj, Int64.reduceToInt, Int32.toInt_toInt64, lg_cmp_ge, lg_cmp_le, lg_cmp_gt, lg_cmp_lt, lg_cmp_eq, Bool.false_eq_true, Bool.true_eq_false, reduceCtorEq, false_iff, true_iff, iff_true, iff_false, and_true, true_and, and_false, false_and, reduceIte, ite_true, ite_false, eq_self] at *)) <;> omega)) | (refine i_remK2 hv119 ?_ (fun tv119 => ?_); (((try simp only [vp_in_iff, Int32.lt_iff_toInt_lt, Int32.le_iff_toInt_le, ← Int32.toInt_inj, Int32.reduceToInt, n_1, n_2, n_8, Int32.toNatClampNeg, Int64.lt_iff_toInt_lt, Int64.le_iff_toInt_le, ← Int64.toInt_inj, Int64.reduceToInt, Int32.toInt_toInt64, lg_cmp_ge, lg_cmp_le, lg_cmp_gt, lg_cmp_lt, lg_cmp_eq, Bool.false_eq_true, Bool.true_eq_false, reduceCtorEq, false_iff, true_iff, iff_true, iff_false, and_true, true_and, and_false, false_and, reduceIte, ite_true, ite_false, eq_self] at *)) <;> omega)) | skip
                  clear hv119
                  refine wa_iconst (v := 1) (by decide) ?_
                  refine wa_icmp_ne o_X12_halved_143 (by decide) (fun h120 => ?_) (fun h120 => ?_)
                  · refine wa_iload rfl ?_
                    refine wa_iconst (v := 2) (by decide) ?_
                    refine wa_icmp_ne o_X12_halved_153 (by decide) (fun h121 => ?_) (fun h121 => ?_)
                    · refine wa_bipush (v := 16) (by decide) ?_
                      refine wa_iload rfl ?_
                      refine wa_iconst (v := 2) (by decide) ?_
                      refine wa_idiv (by ((try simp only [vp_in_iff, Int32.lt_iff_toInt_lt, Int32.le_iff_toInt_le, ← Int32.toInt_inj, Int32.reduceToInt, n_1, n_2, n_8, Int32.toNatClampNeg, Int64.lt_iff_toInt_lt, Int64.le_iff_toInt_le, ← Int64.toInt_inj, Int64.reduceToInt, Int32.toInt_toInt64, lg_cmp_ge, lg_cmp_le, lg_cmp_gt, lg_cmp_lt, lg_cmp_eq, Bool.false_eq_true, Bool.true_eq_false, reduceCtorEq, false_iff, true_iff, iff_true, iff_false, and_true, true_and, and_false, false_and, reduceIte, ite_true, ite_false, eq_self] at *)) <;> omega) ?_
                      refine wa_top (fun v122 hv122 => ?_)
                      first | (refine i_divK hv122 ?_ ?_ (fun tv122 => ?_); (((try simp only [vp_in_iff, Int32.lt_iff_toInt_lt, Int32.le_iff_toInt_le, ← Int32.toInt_inj, Int32.reduceToInt, n_1, n_2, n_8, Int32.toNatClampNeg, Int64.lt_iff_toInt_lt, Int64.le_iff_toInt_le, ← Int64.toInt_inj, Int64.reduceToInt, Int32.toInt_toInt64, lg_cmp_ge, lg_cmp_le, lg_cmp_gt, lg_cmp_lt, lg_cmp_eq, Bool.false_eq_true, Bool.true_eq_false, reduceCtorEq, false_iff, true_iff, iff_true, iff_false, and_true, true_and, and_false, false_and, reduceIte, ite_true, ite_false, eq_self] at *)) <;> omega); (((try simp only [vp_in_iff, Int32.lt_iff_toInt_lt, Int32.le_iff_toInt_le, ← Int32.toInt_inj, Int32.reduceToInt, n_1, n_2, n_8, Int32.toNatClampNeg, Int64.lt_iff_toInt_lt, Int64.le_iff_toInt_le, ← Int64.toInt_inj, Int64.reduceToInt, Int32.toInt_toInt64, lg_cmp_ge, lg_cmp_le, lg_cmp_gt, lg_cmp_lt, lg_cmp_eq, Bool.false_eq_true, Bool.true_eq_false, reduceCtorEq, false_iff, true_iff, iff_true, iff_false, and_true, true_and, and_false, false_and, reduceIte, ite_true, ite_false, eq_self] at *)) <;> omega)) | skip
                      clear hv122
                      refine wa_imul ?_
                      refine wa_top (fun v123 hv123 => ?_)
                      first | (refine i_mulK hv123 ?_ ?_ (fun tv123 => ?_); (((try simp only [vp_in_iff, Int32.lt_iff_toInt_lt, Int32.le_iff_toInt_le, ← Int32.toInt_inj, Int32.reduceToInt, n_1, n_2, n_8, Int32.toNatClampNeg, Int64.lt_iff_toInt_lt, Int64.le_iff_toInt_le, ← Int64.toInt_inj, Int64.reduceToInt, Int32.toInt_toInt64, lg_cmp_ge, lg_cmp_le, lg_cmp_gt, lg_cmp_lt, lg_cmp_eq, Bool.false_eq_true, Bool.true_eq_false, reduceCtorEq, false_iff, true_iff, iff_true, iff_false, and_true, true_and, and_false, false_and, reduceIte, ite_true, ite_false, eq_self] at *)) <;> omega); (((try simp only [vp_in_iff, Int32.lt_iff_toInt_lt, Int32.le_iff_toInt_le, ← Int32.toInt_inj, Int32.reduceToInt, n_1, n_2, n_8, Int32.toNatClampNeg, Int64.lt_iff_toInt_lt, Int64.le_iff_toInt_le, ← Int64.toInt_inj, Int64.reduceToInt, Int32.toInt_toInt64, lg_cmp_ge, lg_cmp_le, lg_cmp_gt, lg_cmp_lt, lg_cmp_eq, Bool.false_eq_true, Bool.true_eq_false, reduceCtorEq, false_iff, true_iff, iff_true, iff_false, and_true, true_and, and_false, false_and, reduceIte, ite_true, ite_false, eq_self] at *)) <;> omega)) | skip
                      clear hv123
                      refine wa_iload rfl ?_
                      refine wa_iconst (v := 2) (by decide) ?_
                      refine wa_idiv (by ((try simp only [vp_in_iff, Int32.lt_iff_toInt_lt, Int32.le_iff_toInt_le, ← Int32.toInt_inj, Int32.reduceToInt, n_1, n_2, n_8, Int32.toNatClampNeg, Int64.lt_iff_toInt_lt, Int64.le_iff_toInt_le, ← Int64.toInt_inj, Int64.reduceToInt, Int32.toInt_toInt64, lg_cmp_ge, lg_cmp_le, lg_cmp_gt, lg_cmp_lt, lg_cmp_eq, Bool.false_eq_true, Bool.true_eq_false, reduceCtorEq, false_iff, true_iff, iff_true, iff_false, and_true, true_and, and_false, false_and, reduceIte, ite_true, ite_false, eq_self] at *)) <;> omega) ?_
                      refine wa_top (fun v124 hv124 => ?_)
                      first | (refine i_divK hv124 ?_ ?_ (fun tv124 => ?_); (((try simp only [vp_in_iff, Int32.lt_iff_toInt_lt, Int32.le_iff_toInt_le, ← Int32.toInt_inj, Int32.reduceToInt, n_1, n_2, n_8, Int32.toNatClampNeg, Int64.lt_iff_toInt_lt, Int64.le_iff_toInt_le, ← Int64.toInt_inj, Int64.reduceToInt, Int32.toInt_toInt64, lg_cmp_ge, lg_cmp_le, lg_cmp_gt, lg_cmp_lt, lg_cmp_eq, Bool.false_eq_true, Bool.true_eq_false, reduceCtorEq, false_iff, true_iff, iff_true, iff_false, and_true, true_and, and_false, false_and, reduceIte, ite_true, ite_false, eq_self] at *)) <;> omega); (((try simp only [vp_in_iff, Int32.lt_iff_toInt_lt, Int32.le_iff_toInt_le, ← Int32.toInt_inj, Int32.reduceToInt, n_1, n_2, n_8, Int32.toNatClampNeg, Int64.lt_iff_toInt_lt, Int64.le_iff_toInt_le, ← Int64.toInt_inj, Int64.reduceToInt, Int32.toInt_toInt64, lg_cmp_ge, lg_cmp_le, lg_cmp_gt, lg_cmp_lt, lg_cmp_eq, Bool.false_eq_true, Bool.true_eq_false, reduceCtorEq, false_iff, true_iff, iff_true, iff_false, and_true, true_and, and_false, false_and, reduceIte, ite_true, ite_false, eq_self] at *)) <;> omega)) | skip
                      clear hv124
                      refine wa_iload rfl ?_
                      refine wa_iconst (v := 2) (by decide) ?_
                      refine wa_idiv (by ((try simp only [vp_in_iff, Int32.lt_iff_toInt_lt, Int32.le_iff_toInt_le, ← Int32.toInt_inj, Int32.reduceToInt, n_1, n_2, n_8, Int32.toNatClampNeg, Int64.lt_iff_toInt_lt, Int64.le_iff_toInt_le, ← Int64.toInt_inj, Int64.reduceToInt, Int32.toInt_toInt64, lg_cmp_ge, lg_cmp_le, lg_cmp_gt, lg_cmp_lt, lg_cmp_eq, Bool.false_eq_true, Bool.true_eq_false, reduceCtorEq, false_iff, true_iff, iff_true, iff_false, and_true, true_and, and_false, false_and, reduceIte, ite_true, ite_false, eq_self] at *)) <;> omega) ?_
                      refine wa_top (fun v125 hv125 => ?_)
                      first | (refine i_divK hv125 ?_ ?_ (fun tv125 => ?_); (((try simp only [vp_in_iff, Int32.lt_iff_toInt_lt, Int32.le_iff_toInt_le, ← Int32.toInt_inj, Int32.reduceToInt, n_1, n_2, n_8, Int32.toNatClampNeg, Int64.lt_iff_toInt_lt, Int64.le_iff_toInt_le, ← Int64.toInt_inj, Int64.reduceToInt, Int32.toInt_toInt64, lg_cmp_ge, lg_cmp_le, lg_cmp_gt, lg_cmp_lt, lg_cmp_eq, Bool.false_eq_true, Bool.true_eq_false, reduceCtorEq, false_iff, true_iff, iff_true, iff_false, and_true, true_and, and_false, false_and, reduceIte, ite_true, ite_false, eq_self] at *)) <;> omega); (((try simp only [vp_in_iff, Int32.lt_iff_toInt_lt, Int32.le_iff_toInt_le, ← Int32.toInt_inj, Int32.reduceToInt, n_1, n_2, n_8, Int32.toNatClampNeg, Int64.lt_iff_toInt_lt, Int64.le_iff_toInt_le, ← Int64.toInt_inj, Int64.reduceToInt, Int32.toInt_toInt64, lg_cmp_ge, lg_cmp_le, lg_cmp_gt, lg_cmp_lt, lg_cmp_eq, Bool.false_eq_true, Bool.true_eq_false, reduceCtorEq, false_iff, true_iff, iff_true, iff_false, and_true, true_and, and_false, false_and, reduceIte, ite_true, ite_false, eq_self] at *)) <;> omega)) | skip
                      clear hv125
                      refine wa_irem (by ((try simp only [vp_in_iff, Int32.lt_iff_toInt_lt, Int32.le_iff_toInt_le, ← Int32.toInt_inj, Int32.reduceToInt, n_1, n_2, n_8, Int32.toNatClampNeg, Int64.lt_iff_toInt_lt, Int64.le_iff_toInt_le, ← Int64.toInt_inj, Int64.reduceToInt, Int32.toInt_toInt64, lg_cmp_ge, lg_cmp_le, lg_cmp_gt, lg_cmp_lt, lg_cmp_eq, Bool.false_eq_true, Bool.true_eq_false, reduceCtorEq, false_iff, true_iff, iff_true, iff_false, and_true, true_and, and_false, false_and, reduceIte, ite_true, ite_false, eq_self] at *)) <;> omega) ?_
                      refine wa_top (fun v126 hv126 => ?_)
                      first | (refine i_remK hv126 ?_ ?_ (fun tv126 => ?_); (((try simp only [vp_in_iff, Int32.lt_iff_toInt_lt, Int32.le_iff_toInt_le, ← Int32.toInt_inj, Int32.reduceToInt, n_1, n_2, n_8, Int32.toNatClampNeg, Int64.lt_iff_toInt_lt, Int64.le_iff_toInt_le, ← Int64.toInt_inj, Int64.reduceToInt, Int32.toInt_toInt64, lg_cmp_ge, lg_cmp_le, lg_cmp_gt, lg_cmp_lt, lg_cmp_eq, Bool.false_eq_true, Bool.true_eq_false, reduceCtorEq, false_iff, true_iff, iff_true, iff_false, and_true, true_and, and_false, false_and, reduceIte, ite_true, ite_false, eq_self] at *)) <;> omega); (((try simp only [vp_in_iff, Int32.lt_iff_toInt_lt, Int32.le_iff_toInt_le, ← Int32.toInt_inj, Int32.reduceToInt, n_1, n_2, n_8, Int32.toNatClampNeg, Int64.lt_iff_toInt_lt, Int64.le_iff_toInt_le, ← Int64.toInt_inj, Int64.reduceToInt, Int32.toInt_toInt64, lg_cmp_ge, lg_cmp_le, lg_cmp_gt, lg_cmp_lt, lg_cmp_eq, Bool.false_eq_true, Bool.true_eq_false, reduceCtorEq, false_iff, true_iff, iff_true, iff_false, and_true, true_and, and_false, false_and, reduceIte, ite_true, ite_false, eq_self] at *)) <;> omega)) | (refine i_remK2 hv126 ?_ (fun tv126 => ?_); (((try simp only [vp_in_iff, Int32.lt_iff_toInt_lt, Int32.le_iff_toInt_le, ← Int32.toInt_inj, Int32.reduceToInt, n_1, n_2, n_8, Int32.toNatClampNeg, Int64.lt_iff_toInt_lt, Int64.le_iff_toInt_le, ← Int64.toInt_inj, Int64.reduceToInt, Int32.toInt_toInt64, lg_cmp_ge, lg_cmp_le, lg_cmp_gt, lg_cmp_lt, lg_cmp_eq, Bool.false_eq_true, Bool.true_eq_false, reduceCtorEq, false_iff, true_iff, iff_true, iff_false, and_true, true_and, and_false, false_and, reduceIte, ite_true, ite_false, eq_self] at *)) <;> omega)) | skip
                      clear hv126
                      refine wa_iadd ?_
                      refine wa_top (fun v127 hv127 => ?_)
                      first | (refine i_addK hv127 ?_ ?_ (fun tv127 => ?_); (((try simp only [vp_in_iff, Int32.lt_iff_toInt_lt, Int32.le_iff_toInt_le, ← Int32.toInt_inj, Int32.reduceToInt, n_1, n_2, n_8, Int32.toNatClampNeg, Int64.lt_iff_toInt_lt, Int64.le_iff_toInt_le, ← Int64.toInt_inj, Int64.reduceToInt, Int32.toInt_toInt64, lg_cmp_ge, lg_cmp_le, lg_cmp_gt, lg_cmp_lt, lg_cmp_eq, Bool.false_eq_true, Bool.true_eq_false, reduceCtorEq, false_iff, true_iff, iff_true, iff_false, and_true, true_and, and_false, false_and, reduceIte, ite_true, ite_false, eq_self] at *)) <;> omega); (((try simp only [vp_in_iff, Int32.lt_iff_toInt_lt, Int32.le_iff_toInt_le, ← Int32.toInt_inj, Int32.reduceToInt, n_1, n_2, n_8, Int32.toNatClampNeg, Int64.lt_iff_toInt_lt, Int64.le_iff_toInt_le, ← Int64.toInt_inj, Int64.reduceToInt, Int32.toInt_toInt64, lg_cmp_ge, lg_cmp_le, lg_cmp_gt, lg_cmp_lt, lg_cmp_eq, Bool.false_eq_true, Bool.true_eq_false, reduceCtorEq, false_iff, true_iff, iff_true, iff_false, and_true, true_and, and_false, false_and, reduceIte, ite_true, ite_false, eq_self] at *)) <;> omega)) | skip
                      clear hv127
                      refine wa_ireturn rfl rfl ?_
                      exact ⟨_, rfl, rfl, (by ((try simp only [vp_in_iff, Int32.lt_iff_toInt_lt, Int32.le_iff_toInt_le, ← Int32.toInt_inj, Int32.reduceToInt, n_1, n_2, n_8, Int32.toNatClampNeg, Int64.lt_iff_toInt_lt, Int64.le_iff_toInt_le, ← Int64.toInt_inj, Int64.reduceToInt, Int32.toInt_toInt64, lg_cmp_ge, lg_cmp_le, lg_cmp_gt, lg_cmp_lt, lg_cmp_eq, Bool.false_eq_true, Bool.true_eq_false, reduceCtorEq, false_iff, true_iff, iff_true, iff_false, and_true, true_and, and_false, false_and, reduceIte, ite_true, ite_false, eq_self] at *)) <;> omega), trivial⟩
                    · refine wa_iconst (v := (-1)) (by decide) ?_
                      refine wa_goto o_X12_halved_170 (by decide) ?_
                      refine wa_ireturn rfl rfl ?_
                      exact ⟨_, rfl, rfl, (by ((try simp only [vp_in_iff, Int32.lt_iff_toInt_lt, Int32.le_iff_toInt_le, ← Int32.toInt_inj, Int32.reduceToInt, n_1, n_2, n_8, Int32.toNatClampNeg, Int64.lt_iff_toInt_lt, Int64.le_iff_toInt_le, ← Int64.toInt_inj, Int64.reduceToInt, Int32.toInt_toInt64, lg_cmp_ge, lg_cmp_le, lg_cmp_gt, lg_cmp_lt, lg_cmp_eq, Bool.false_eq_true, Bool.true_eq_false, reduceCtorEq, false_iff, true_iff, iff_true, iff_false, and_true, true_and, and_false, false_and, reduceIte, ite_true, ite_false, eq_self] at *)) <;> omega), trivial⟩
                  · refine wa_bipush (v := (-2)) (by decide) ?_
                    refine wa_goto o_X12_halved_170 (by decide) ?_
                    refine wa_ireturn rfl rfl ?_
                    exact ⟨_, rfl, rfl, (by ((try simp only [vp_in_iff, Int32.lt_iff_toInt_lt, Int32.le_iff_toInt_le, ← Int32.toInt_inj, Int32.reduceToInt, n_1, n_2, n_8, Int32.toNatClampNeg, Int64.lt_iff_toInt_lt, Int64.le_iff_toInt_le, ← Int64.toInt_inj, Int64.reduceToInt, Int32.toInt_toInt64, lg_cmp_ge, lg_cmp_le, lg_cmp_gt, lg_cmp_lt, lg_cmp_eq, Bool.false_eq_true, Bool.true_eq_false, reduceCtorEq, false_iff, true_iff, iff_true, iff_false, and_true, true_and, and_false, false_and, reduceIte, ite_true, ite_false, eq_self] at *)) <;> omega), trivial⟩
              · refine wa_iload_n (i := 2) rfl rfl ?_
                refine wa_ireturn rfl rfl ?_
                exact ⟨_, rfl, rfl, (by ((try simp only [vp_in_iff, Int32.lt_iff_toInt_lt, Int32.le_iff_toInt_le, ← Int32.toInt_inj, Int32.reduceToInt, n_1, n_2, n_8, Int32.toNatClampNeg, Int64.lt_iff_toInt_lt, Int64.le_iff_toInt_le, ← Int64.toInt_inj, Int64.reduceToInt, Int32.toInt_toInt64, lg_cmp_ge, lg_cmp_le, lg_cmp_gt, lg_cmp_lt, lg_cmp_eq, Bool.false_eq_true, Bool.true_eq_false, reduceCtorEq, false_iff, true_iff, iff_true, iff_false, and_true, true_and, and_false, false_and, reduceIte, ite_true, ite_false, eq_self] at *)) <;> omega), trivial⟩
            · refine wa_iload_n (i := 2) rfl rfl ?_
              refine wa_iload rfl ?_
              refine wa_isub ?_
              refine wa_top (fun v128 hv128 => ?_)
              first | (refine i_subK hv128 ?_ ?_ (fun tv128 => ?_); (((try simp only [vp_in_iff, Int32.lt_iff_toInt_lt, Int32.le_iff_toInt_le, ← Int32.toInt_inj, Int32.reduceToInt, n_1, n_2, n_8, Int32.toNatClampNeg, Int64.lt_iff_toInt_lt, Int64.le_iff_toInt_le, ← Int64.toInt_inj, Int64.reduceToInt, Int32.toInt_toInt64, lg_cmp_ge, lg_cmp_le, lg_cmp_gt, lg_cmp_lt, lg_cmp_eq, Bool.false_eq_true, Bool.true_eq_false, reduceCtorEq, false_iff, true_iff, iff_true, iff_false, and_true, true_and, and_false, false_and, reduceIte, ite_true, ite_false, eq_self] at *)) <;> omega); (((try simp only [vp_in_iff, Int32.lt_iff_toInt_lt, Int32.le_iff_toInt_le, ← Int32.toInt_inj, Int32.reduceToInt, n_1, n_2, n_8, Int32.toNatClampNeg, Int64.lt_iff_toInt_lt, Int64.le_iff_toInt_le, ← Int64.toInt_inj, Int64.reduceToInt, Int32.toInt_toInt64, lg_cmp_ge, lg_cmp_le, lg_cmp_gt, lg_cmp_lt, lg_cmp_eq, Bool.false_eq_true, Bool.true_eq_false, reduceCtorEq, false_iff, true_iff, iff_true, iff_false, and_true, true_and, and_false, false_and, reduceIte, ite_true, ite_false, eq_self] at *)) <;> omega)) | skip
              clear hv128
              refine wa_iconst (v := 1) (by decide) ?_
              refine wa_ishr ?_
              refine wa_top (fun v129 hv129 => ?_)
              clear hv129
              refine wa_ireturn rfl rfl ?_
              exact ⟨_, rfl, rfl, (by ((try simp only [vp_in_iff, Int32.lt_iff_toInt_lt, Int32.le_iff_toInt_le, ← Int32.toInt_inj, Int32.reduceToInt, n_1, n_2, n_8, Int32.toNatClampNeg, Int64.lt_iff_toInt_lt, Int64.le_iff_toInt_le, ← Int64.toInt_inj, Int64.reduceToInt, Int32.toInt_toInt64, lg_cmp_ge, lg_cmp_le, lg_cmp_gt, lg_cmp_lt, lg_cmp_eq, Bool.false_eq_true, Bool.true_eq_false, reduceCtorEq, false_iff, true_iff, iff_true, iff_false, and_true, true_and, and_false, false_and, reduceIte, ite_true, ite_false, eq_self] at *)) <;> omega), trivial⟩
          · have mh101 := nle_mx h101
            refine wa_iload_n (i := 3) rfl rfl ?_
            refine wa_iload rfl ?_
            refine wa_ishr ?_
            refine wa_top (fun v130 hv130 => ?_)
            clear hv130
            refine wa_iconst (v := 1) (by decide) ?_
            refine wa_iand ?_
            refine wa_top (fun v131 hv131 => ?_)
            have tv131 := i_andT hv131
            clear hv131
            refine wa_iconst (v := 1) (by decide) ?_
            refine wa_icmp_ne o_X12_halved_86 (by decide) (fun h132 => ?_) (fun h132 => ?_)
            · refine wa_iinc (v := (1)) (lv' := fun y133 => [(6, .int y133), (0, .ref 84), (1, .int a0), (2, .int a1), (3, .int a2), (4, .int l4), (5, .int v98)]) (by decide) rfl (by decide) (fun _ => rfl) (fun y133 hy133 => ?_)
              have ty133 := i_addT hy133.symm
              clear hy133
              refine wa_goto o_X12_halved_29 (by decide) ?_
              refine wa_pick [1, 2, 3, 4, 5, 6, 0] rfl ?_
              exact ih99 _ (by ((try simp only [vp_in_iff, Int32.lt_iff_toInt_lt, Int32.le_iff_toInt_le, ← Int32.toInt_inj, Int32.reduceToInt, n_1, n_2, n_8, Int32.toNatClampNeg, Int64.lt_iff_toInt_lt, Int64.le_iff_toInt_le, ← Int64.toInt_inj, Int64.reduceToInt, Int32.toInt_toInt64, lg_cmp_ge, lg_cmp_le, lg_cmp_gt, lg_cmp_lt, lg_cmp_eq, Bool.false_eq_true, Bool.true_eq_false, reduceCtorEq, false_iff, true_iff, iff_true, iff_false, and_true, true_and, and_false, false_and, reduceIte, ite_true, ite_false, eq_self] at *)) <;> omega) _ _ ⟨(by ((try simp only [vp_in_iff, Int32.lt_iff_toInt_lt, Int32.le_iff_toInt_le, ← Int32.toInt_inj, Int32.reduceToInt, n_1, n_2, n_8, Int32.toNatClampNeg, Int64.lt_iff_toInt_lt, Int64.le_iff_toInt_le, ← Int64.toInt_inj, Int64.reduceToInt, Int32.toInt_toInt64, lg_cmp_ge, lg_cmp_le, lg_cmp_gt, lg_cmp_lt, lg_cmp_eq, Bool.false_eq_true, Bool.true_eq_false, reduceCtorEq, false_iff, true_iff, iff_true, iff_false, and_true, true_and, and_false, false_and, reduceIte, ite_true, ite_false, eq_self] at *)) <;> omega), trivial⟩ rfl
            · refine wa_iload rfl ?_
              refine wa_iload rfl ?_
              refine wa_if_le o_X12_halved_72 (by decide) (fun h134 => ?_) (fun h134 => ?_)
              · refine wa_aload_n (i := 0) rfl rfl ?_
                refine wa_getr ck_12 fl_12_292 ly_84 rf_84_116 ?_
                refine wa_iconst (v := 4) (by decide) ?_
                refine wa_iload_n (i := 1) rfl rfl ?_
                refine wa_imul ?_
                refine wa_top (fun v135 hv135 => ?_)
                first | (refine i_mulK hv135 ?_ ?_ (fun tv135 => ?_); (((try simp only [vp_in_iff, Int32.lt_iff_toInt_lt, Int32.le_iff_toInt_le, ← Int32.toInt_inj, Int32.reduceToInt, n_1, n_2, n_8, Int32.toNatClampNeg, Int64.lt_iff_toInt_lt, Int64.le_iff_toInt_le, ← Int64.toInt_inj, Int64.reduceToInt, Int32.toInt_toInt64, lg_cmp_ge, lg_cmp_le, lg_cmp_gt, lg_cmp_lt, lg_cmp_eq, Bool.false_eq_true, Bool.true_eq_false, reduceCtorEq, false_iff, true_iff, iff_true, iff_false, and_true, true_and, and_false, false_and, reduceIte, ite_true, ite_false, eq_self] at *)) <;> omega); (((try simp only [vp_in_iff, Int32.lt_iff_toInt_lt, Int32.le_iff_toInt_le, ← Int32.toInt_inj, Int32.reduceToInt, n_1, n_2, n_8, Int32.toNatClampNeg, Int64.lt_iff_toInt_lt, Int64.le_iff_toInt_le, ← Int64.toInt_inj, Int64.reduceToInt, Int32.toInt_toInt64, lg_cmp_ge, lg_cmp_le, lg_cmp_gt, lg_cmp_lt, lg_cmp_eq, Bool.false_eq_true, Bool.true_eq_false, reduceCtorEq, false_iff, true_iff, iff_true, iff_false, and_true, true_and, and_false, false_and, reduceIte, ite_true, ite_false, eq_self] at *)) <;> omega)) | skip
                clear hv135
                refine wa_iload rfl ?_
                refine wa_iadd ?_
                refine wa_top (fun v136 hv136 => ?_)
                first | (refine i_addK hv136 ?_ ?_ (fun tv136 => ?_); (((try simp only [vp_in_iff, Int32.lt_iff_toInt_lt, Int32.le_iff_toInt_le, ← Int32.toInt_inj, Int32.reduceToInt, n_1, n_2, n_8, Int32.toNatClampNeg, Int64.lt_iff_toInt_lt, Int64.le_iff_toInt_le, ← Int64.toInt_inj, Int64.reduceToInt, Int32.toInt_toInt64, lg_cmp_ge, lg_cmp_le, lg_cmp_gt, lg_cmp_lt, lg_cmp_eq, Bool.false_eq_true, Bool.true_eq_false, reduceCtorEq, false_iff, true_iff, iff_true, iff_false, and_true, true_and, and_false, false_and, reduceIte, ite_true, ite_false, eq_self] at *)) <;> omega); (((try simp only [vp_in_iff, Int32.lt_iff_toInt_lt, Int32.le_iff_toInt_le, ← Int32.toInt_inj, Int32.reduceToInt, n_1, n_2, n_8, Int32.toNatClampNeg, Int64.lt_iff_toInt_lt, Int64.le_iff_toInt_le, ← Int64.toInt_inj, Int64.reduceToInt, Int32.toInt_toInt64, lg_cmp_ge, lg_cmp_le, lg_cmp_gt, lg_cmp_lt, lg_cmp_eq, Bool.false_eq_true, Bool.true_eq_false, reduceCtorEq, false_iff, true_iff, iff_true, iff_false, and_true, true_and, and_false, false_and, reduceIte, ite_true, ite_false, eq_self] at *)) <;> omega)) | skip
                clear hv136
                refine wa_iald ly_137 (by ((try simp only [vp_in_iff, Int32.lt_iff_toInt_lt, Int32.le_iff_toInt_le, ← Int32.toInt_inj, Int32.reduceToInt, n_1, n_2, n_8, Int32.toNatClampNeg, Int64.lt_iff_toInt_lt, Int64.le_iff_toInt_le, ← Int64.toInt_inj, Int64.reduceToInt, Int32.toInt_toInt64, lg_cmp_ge, lg_cmp_le, lg_cmp_gt, lg_cmp_lt, lg_cmp_eq, Bool.false_eq_true, Bool.true_eq_false, reduceCtorEq, false_iff, true_iff, iff_true, iff_false, and_true, true_and, and_false, false_and, reduceIte, ite_true, ite_false, eq_self] at *)) <;> omega) ?_
                refine wa_top (fun v137 hv137 => ?_)
                have rv137 : -20 ≤ v137.toInt ∧ v137.toInt ≤ 20 := by rw [← hv137]; exact ar_at A_137 _
                clear hv137
                refine wa_iadd ?_
                refine wa_top (fun v138 hv138 => ?_)
                first | (refine i_addK hv138 ?_ ?_ (fun tv138 => ?_); (((try simp only [vp_in_iff, Int32.lt_iff_toInt_lt, Int32.le_iff_toInt_le, ← Int32.toInt_inj, Int32.reduceToInt, n_1, n_2, n_8, Int32.toNatClampNeg, Int64.lt_iff_toInt_lt, Int64.le_iff_toInt_le, ← Int64.toInt_inj, Int64.reduceToInt, Int32.toInt_toInt64, lg_cmp_ge, lg_cmp_le, lg_cmp_gt, lg_cmp_lt, lg_cmp_eq, Bool.false_eq_true, Bool.true_eq_false, reduceCtorEq, false_iff, true_iff, iff_true, iff_false, and_true, true_and, and_false, false_and, reduceIte, ite_true, ite_false, eq_self] at *)) <;> omega); (((try simp only [vp_in_iff, Int32.lt_iff_toInt_lt, Int32.le_iff_toInt_le, ← Int32.toInt_inj, Int32.reduceToInt, n_1, n_2, n_8, Int32.toNatClampNeg, Int64.lt_iff_toInt_lt, Int64.le_iff_toInt_le, ← Int64.toInt_inj, Int64.reduceToInt, Int32.toInt_toInt64, lg_cmp_ge, lg_cmp_le, lg_cmp_gt, lg_cmp_lt, lg_cmp_eq, Bool.false_eq_true, Bool.true_eq_false, reduceCtorEq, false_iff, true_iff, iff_true, iff_false, and_true, true_and, and_false, false_and, reduceIte, ite_true, ite_false, eq_self] at *)) <;> omega)) | skip
                clear hv138
                refine wa_istoreD (lv' := [(4, .int v138), (0, .ref 84), (1, .int a0), (2, .int a1), (3, .int a2), (5, .int v98), (6, .int l6)]) (by decide) rfl ?_
                refine wa_iinc (v := (1)) (lv' := fun y139 => [(6, .int y139), (4, .int v138), (0, .ref 84), (1, .int a0), (2, .int a1), (3, .int a2), (5, .int v98)]) (by decide) rfl (by decide) (fun _ => rfl) (fun y139 hy139 => ?_)
                have ty139 := i_addT hy139.symm
                clear hy139
                refine wa_goto o_X12_halved_29 (by decide) ?_
                refine wa_pick [2, 3, 4, 5, 1, 6, 0] rfl ?_
                exact ih99 _ (by ((try simp only [vp_in_iff, Int32.lt_iff_toInt_lt, Int32.le_iff_toInt_le, ← Int32.toInt_inj, Int32.reduceToInt, n_1, n_2, n_8, Int32.toNatClampNeg, Int64.lt_iff_toInt_lt, Int64.le_iff_toInt_le, ← Int64.toInt_inj, Int64.reduceToInt, Int32.toInt_toInt64, lg_cmp_ge, lg_cmp_le, lg_cmp_gt, lg_cmp_lt, lg_cmp_eq, Bool.false_eq_true, Bool.true_eq_false, reduceCtorEq, false_iff, true_iff, iff_true, iff_false, and_true, true_and, and_false, false_and, reduceIte, ite_true, ite_false, eq_self] at *)) <;> omega) _ _ ⟨(by ((try simp only [vp_in_iff, Int32.lt_iff_toInt_lt, Int32.le_iff_toInt_le, ← Int32.toInt_inj, Int32.reduceToInt, n_1, n_2, n_8, Int32.toNatClampNeg, Int64.lt_iff_toInt_lt, Int64.le_iff_toInt_le, ← Int64.toInt_inj, Int64.reduceToInt, Int32.toInt_toInt64, lg_cmp_ge, lg_cmp_le, lg_cmp_gt, lg_cmp_lt, lg_cmp_eq, Bool.false_eq_true, Bool.true_eq_false, reduceCtorEq, false_iff, true_iff, iff_true, iff_false, and_true, true_and, and_false, false_and, reduceIte, ite_true, ite_false, eq_self] at *)) <;> omega), trivial⟩ rfl
              · refine wa_aload_n (i := 0) rfl rfl ?_
                refine wa_getr ck_12 fl_12_292 ly_84 rf_84_116 ?_
                refine wa_iconst (v := 4) (by decide) ?_
                refine wa_iload_n (i := 1) rfl rfl ?_
                refine wa_imul ?_
                refine wa_top (fun v140 hv140 => ?_)
                first | (refine i_mulK hv140 ?_ ?_ (fun tv140 => ?_); (((try simp only [vp_in_iff, Int32.lt_iff_toInt_lt, Int32.le_iff_toInt_le, ← Int32.toInt_inj, Int32.reduceToInt, n_1, n_2, n_8, Int32.toNatClampNeg, Int64.lt_iff_toInt_lt, Int64.le_iff_toInt_le, ← Int64.toInt_inj, Int64.reduceToInt, Int32.toInt_toInt64, lg_cmp_ge, lg_cmp_le, lg_cmp_gt, lg_cmp_lt, lg_cmp_eq, Bool.false_eq_true, Bool.true_eq_false, reduceCtorEq, false_iff, true_iff, iff_true, iff_false, and_true, true_and, and_false, false_and, reduceIte, ite_true, ite_false, eq_self] at *)) <;> omega); (((try simp only [vp_in_iff, Int32.lt_iff_toInt_lt, Int32.le_iff_toInt_le, ← Int32.toInt_inj, Int32.reduceToInt, n_1, n_2, n_8, Int32.toNatClampNeg, Int64.lt_iff_toInt_lt, Int64.le_iff_toInt_le, ← Int64.toInt_inj, Int64.reduceToInt, Int32.toInt_toInt64, lg_cmp_ge, lg_cmp_le, lg_cmp_gt, lg_cmp_lt, lg_cmp_eq, Bool.false_eq_true, Bool.true_eq_false, reduceCtorEq, false_iff, true_iff, iff_true, iff_false, and_true, true_and, and_false, false_and, reduceIte, ite_true, ite_false, eq_self] at *)) <;> omega)) | skip
                clear hv140
                refine wa_iload rfl ?_
                refine wa_iadd ?_
                refine wa_top (fun v141 hv141 => ?_)
                first | (refine i_addK hv141 ?_ ?_ (fun tv141 => ?_); (((try simp only [vp_in_iff, Int32.lt_iff_toInt_lt, Int32.le_iff_toInt_le, ← Int32.toInt_inj, Int32.reduceToInt, n_1, n_2, n_8, Int32.toNatClampNeg, Int64.lt_iff_toInt_lt, Int64.le_iff_toInt_le, ← Int64.toInt_inj, Int64.reduceToInt, Int32.toInt_toInt64, lg_cmp_ge, lg_cmp_le, lg_cmp_gt, lg_cmp_lt, lg_cmp_eq, Bool.false_eq_true, Bool.true_eq_false, reduceCtorEq, false_iff, true_iff, iff_true, iff_false, and_true, true_and, and_false, false_and, reduceIte, ite_true, ite_false, eq_self] at *)) <;> omega); (((try simp only [vp_in_iff, Int32.lt_iff_toInt_lt, Int32.le_iff_toInt_le, ← Int32.toInt_inj, Int32.reduceToInt, n_1, n_2, n_8, Int32.toNatClampNeg, Int64.lt_iff_toInt_lt, Int64.le_iff_toInt_le, ← Int64.toInt_inj, Int64.reduceToInt, Int32.toInt_toInt64, lg_cmp_ge, lg_cmp_le, lg_cmp_gt, lg_cmp_lt, lg_cmp_eq, Bool.false_eq_true, Bool.true_eq_false, reduceCtorEq, false_iff, true_iff, iff_true, iff_false, and_true, true_and, and_false, false_and, reduceIte, ite_true, ite_false, eq_self] at *)) <;> omega)) | skip
                clear hv141
                refine wa_iald ly_137 (by ((try simp only [vp_in_iff, Int32.lt_iff_toInt_lt, Int32.le_iff_toInt_le, ← Int32.toInt_inj, Int32.reduceToInt, n_1, n_2, n_8, Int32.toNatClampNeg, Int64.lt_iff_toInt_lt, Int64.le_iff_toInt_le, ← Int64.toInt_inj, Int64.reduceToInt, Int32.toInt_toInt64, lg_cmp_ge, lg_cmp_le, lg_cmp_gt, lg_cmp_lt, lg_cmp_eq, Bool.false_eq_true, Bool.true_eq_false, reduceCtorEq, false_iff, true_iff, iff_true, iff_false, and_true, true_and, and_false, false_and, reduceIte, ite_true, ite_false, eq_self] at *)) <;> omega) ?_
                refine wa_top (fun v142 hv142 => ?_)
                have rv142 : -20 ≤ v142.toInt ∧ v142.toInt ≤ 20 := by rw [← hv142]; exact ar_at A_137 _
                clear hv142
                refine wa_iload rfl ?_
                refine wa_irem (by ((try simp only [vp_in_iff, Int32.lt_iff_toInt_lt, Int32.le_iff_toInt_le, ← Int32.toInt_inj, Int32.reduceToInt, n_1, n_2, n_8, Int32.toNatClampNeg, Int64.lt_iff_toInt_lt, Int64.le_iff_toInt_le, ← Int64.toInt_inj, Int64.reduceToInt, Int32.toInt_toInt64, lg_cmp_ge, lg_cmp_le, lg_cmp_gt, lg_cmp_lt, lg_cmp_eq, Bool.false_eq_true, Bool.true_eq_false, reduceCtorEq, false_iff, true_iff, iff_true, iff_false, and_true, true_and, and_false, false_and, reduceIte, ite_true, ite_false, eq_self] at *)) <;> omega) ?_
                refine wa_top (fun v143 hv143 => ?_)
                first | (refine i_remK hv143 ?_ ?_ (fun tv143 => ?_); (((try simp only [vp_in_iff, Int32.lt_iff_toInt_lt, Int32.le_iff_toInt_le, ← Int32.toInt_inj, Int32.reduceToInt, n_1, n_2, n_8, Int32.toNatClampNeg, Int64.lt_iff_toInt_lt, Int64.le_iff_toInt_le, ← Int64.toInt_inj, Int64.reduceToInt, Int32.toInt_toInt64, lg_cmp_ge, lg_cmp_le, lg_cmp_gt, lg_cmp_lt, lg_cmp_eq, Bool.false_eq_true, Bool.true_eq_false, reduceCtorEq, false_iff, true_iff, iff_true, iff_false, and_true, true_and, and_false, false_and, reduceIte, ite_true, ite_false, eq_self] at *)) <;> omega); (((try simp only [vp_in_iff, Int32.lt_iff_toInt_lt, Int32.le_iff_toInt_le, ← Int32.toInt_inj, Int32.reduceToInt, n_1, n_2, n_8, Int32.toNatClampNeg, Int64.lt_iff_toInt_lt, Int64.le_iff_toInt_le, ← Int64.toInt_inj, Int64.reduceToInt, Int32.toInt_toInt64, lg_cmp_ge, lg_cmp_le, lg_cmp_gt, lg_cmp_lt, lg_cmp_eq, Bool.false_eq_true, Bool.true_eq_false, reduceCtorEq, false_iff, true_iff, iff_true, iff_false, and_true, true_and, and_false, false_and, reduceIte, ite_true, ite_false, eq_self] at *)) <;> omega)) | (refine i_remK2 hv143 ?_ (fun tv143 => ?_); (((try simp only [vp_in_iff, Int32.lt_iff_toInt_lt, Int32.le_iff_toInt_le, ← Int32.toInt_inj, Int32.reduceToInt, n_1, n_2, n_8, Int32.toNatClampNeg, Int64.lt_iff_toInt_lt, Int64.le_iff_toInt_le, ← Int64.toInt_inj, Int64.reduceToInt, Int32.toInt_toInt64, lg_cmp_ge, lg_cmp_le, lg_cmp_gt, lg_cmp_lt, lg_cmp_eq, Bool.false_eq_true, Bool.true_eq_false, reduceCtorEq, false_iff, true_iff, iff_true, iff_false, and_true, true_and, and_false, false_and, reduceIte, ite_true, ite_false, eq_self] at *)) <;> omega)) | skip
                clear hv143
                refine wa_goto o_X12_halved_83 (by decide) ?_
                refine wa_iadd ?_
                refine wa_top (fun v144 hv144 => ?_)
                first | (refine i_addK hv144 ?_ ?_ (fun tv144 => ?_); (((try simp only [vp_in_iff, Int32.lt_iff_toInt_lt, Int32.le_iff_toInt_le, ← Int32.toInt_inj, Int32.reduceToInt, n_1, n_2, n_8, Int32.toNatClampNeg, Int64.lt_iff_toInt_lt, Int64.le_iff_toInt_le, ← Int64.toInt_inj, Int64.reduceToInt, Int32.toInt_toInt64, lg_cmp_ge, lg_cmp_le, lg_cmp_gt, lg_cmp_lt, lg_cmp_eq, Bool.false_eq_true, Bool.true_eq_false, reduceCtorEq, false_iff, true_iff, iff_true, iff_false, and_true, true_and, and_false, false_and, reduceIte, ite_true, ite_false, eq_self] at *)) <;> omega); (((try simp only [vp_in_iff, Int32.lt_iff_toInt_lt, Int32.le_iff_toInt_le, ← Int32.toInt_inj, Int32.reduceToInt, n_1, n_2, n_8, Int32.toNatClampNeg, Int64.lt_iff_toInt_lt, Int64.le_iff_toInt_le, ← Int64.toInt_inj, Int64.reduceToInt, Int32.toInt_toInt64, lg_cmp_ge, lg_cmp_le, lg_cmp_gt, lg_cmp_lt, lg_cmp_eq, Bool.false_eq_true, Bool.true_eq_false, reduceCtorEq, false_iff, true_iff, iff_true, iff_false, and_true, true_and, and_false, false_and, reduceIte, ite_true, ite_false, eq_self] at *)) <;> omega)) | skip
                clear hv144
                refine wa_istoreD (lv' := [(4, .int v144), (0, .ref 84), (1, .int a0), (2, .int a1), (3, .int a2), (5, .int v98), (6, .int l6)]) (by decide) rfl ?_
                refine wa_iinc (v := (1)) (lv' := fun y145 => [(6, .int y145), (4, .int v144), (0, .ref 84), (1, .int a0), (2, .int a1), (3, .int a2), (5, .int v98)]) (by decide) rfl (by decide) (fun _ => rfl) (fun y145 hy145 => ?_)
                have ty145 := i_addT hy145.symm
                clear hy145
                refine wa_goto o_X12_halved_29 (by decide) ?_
                refine wa_pick [2, 3, 4, 5, 1, 6, 0] rfl ?_
                exact ih99 _ (by ((try simp only [vp_in_iff, Int32.lt_iff_toInt_lt, Int32.le_iff_toInt_le, ← Int32.toInt_inj, Int32.reduceToInt, n_1, n_2, n_8, Int32.toNatClampNeg, Int64.lt_iff_toInt_lt, Int64.le_iff_toInt_le, ← Int64.toInt_inj, Int64.reduceToInt, Int32.toInt_toInt64, lg_cmp_ge, lg_cmp_le, lg_cmp_gt, lg_cmp_lt, lg_cmp_eq, Bool.false_eq_true, Bool.true_eq_false, reduceCtorEq, false_iff, true_iff, iff_true, iff_false, and_true, true_and, and_false, false_and, reduceIte, ite_true, ite_false, eq_self] at *)) <;> omega) _ _ ⟨(by ((try simp only [vp_in_iff, Int32.lt_iff_toInt_lt, Int32.le_iff_toInt_le, ← Int32.toInt_inj, Int32.reduceToInt, n_1, n_2, n_8, Int32.toNatClampNeg, Int64.lt_iff_toInt_lt, Int64.le_iff_toInt_le, ← Int64.toInt_inj, Int64.reduceToInt, Int32.toInt_toInt64, lg_cmp_ge, lg_cmp_le, lg_cmp_gt, lg_cmp_lt, lg_cmp_eq, Bool.false_eq_true, Bool.true_eq_false, reduceCtorEq, false_iff, true_iff, iff_true, iff_false, and_true, true_and, and_false, false_and, reduceIte, ite_true, ite_false, eq_self] at *)) <;> omega), trivial⟩ rfl
      exact hi100 _ _ _ ⟨(by ((try simp only [vp_in_iff, Int32.lt_iff_toInt_lt, Int32.le_iff_toInt_le, ← Int32.toInt_inj, Int32.reduceToInt, n_1, n_2, n_8, Int32.toNatClampNeg, Int64.lt_iff_toInt_lt, Int64.le_iff_toInt_le, ← Int64.toInt_inj, Int64.reduceToInt, Int32.toInt_toInt64, lg_cmp_ge, lg_cmp_le, lg_cmp_gt, lg_cmp_lt, lg_cmp_eq, Bool.false_eq_true, Bool.true_eq_false, reduceCtorEq, false_iff, true_iff, iff_true, iff_false, and_true, true_and, and_false, false_and, reduceIte, ite_true, ite_false, eq_self] at *)) <;> omega), trivial⟩ rfl
theorem pad_31c : True := trivial
