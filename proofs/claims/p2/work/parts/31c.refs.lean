set_option maxHeartbeats 4000000 in
theorem sp_X12_reckonSlots (G : kG9) {d : Nat} (hd : 3 ≤ d) (σ : St) (A_134 : AR ap_134 σ 134) (A_155 : AR ap_155 σ 155) (A_156 : AR ap_156 σ 156) (A_173 : AR ap_173 σ 173) (A_183 : AR ap_183 σ 183) (A_184 : AR ap_184 σ 184) (A_185 : AR ap_185 σ 185) (A_194 : AR ap_194 σ 194) (P_WKS : WKS σ) (P_CLI : CLI σ) (P_NOK : NOK σ) : Ct G M_X12_reckonSlots d [.ref 84] σ (fun r σ' => Fm [130, 131] [] σ σ' ∧ True) := by
  refine wa_start (by decide) rfl (Nat.le_of_ble_eq_true rfl) (lv := [(0, .ref 84)]) rfl o_X12_reckonSlots_0 rfl ?_
  refine wa_iconst (v := 0) (by decide) ?_
  refine wa_istore_nD (lv' := [(1, .int 0), (0, .ref 84)]) (i := 1) rfl (by decide) rfl ?_
  refine wa_pick [1, 0] rfl ?_
  have hi3 : ∀ (n9_2 : Nat) (l1 : Int32) (s1 : St), ((Fm [130, 131] [] σ s1) ∧ (0 ≤ l1.toInt) ∧ (True)) → (2147483647 - l1.toInt).toNat = n9_2 → WA G M_X12_reckonSlots (ZM G M_X12_reckonSlots d (fun r σ' => Fm [130, 131] [] σ σ' ∧ True)) B_X12_reckonSlots_2 [(0, .ref 84), (1, .int l1)] [] s1 := by
    intro n9_2
    induction n9_2 using Nat.strongRecOn with
    | _ n9_2 ih2 =>
      intro l1 s1 i9 m9_2
      obtain ⟨Fs1, jhi3_0, -⟩ := i9
      have ul1 := Int32.toInt_lt l1
      have wl1 := Int32.le_toInt l1
      refine wa_iload_n (i := 1) rfl rfl ?_
      refine wa_bipush (v := 24) (by decide) ?_
      refine wa_icmp_gt o_X12_reckonSlots_80 (by decide) (fun h4 => ?_) (fun h4 => ?_)
      · refine wa_return (st := []) rfl rfl ?_
        exact ⟨Fs1, trivial⟩
      · refine wa_aload_n (i := 0) rfl rfl ?_
        refine wa_getr ck_12 fl_12_304 ly_84 rf_84_121 ?_
        refine wa_iload_n (i := 1) rfl rfl ?_
        refine wa_zald ly_133 (by ((try simp only [vp_in_iff, Int32.lt_iff_toInt_lt, Int32.le_iff_toInt_le, ← Int32.toInt_inj, Int32.reduceToInt, n_1, n_2, n_8, Int32.toNatClampNeg, Int64.lt_iff_toInt_lt, Int64.le_iff_toInt_le, ← Int64.toInt_inj, Int64.reduceToInt, Int32.toInt_toInt64, lg_cmp_ge, lg_cmp_le, lg_cmp_gt, lg_cmp_lt, lg_cmp_eq, Bool.false_eq_true, Bool.true_eq_false, reduceCtorEq, false_iff, true_iff, iff_true, iff_false, and_true, true_and, and_false, false_and, reduceIte, ite_true, ite_false, eq_self] at *)) <;> omega) ?_
        refine wa_if_eq o_X12_reckonSlots_74 (by decide) (fun h5 => ?_) (fun h5 => ?_)
        · replace h5 := bI_f (b := (gb s1 133 (l1).toNatClampNeg)) (rfl) h5
          refine wa_iinc (v := (1)) (lv' := fun y6 => [(1, .int y6), (0, .ref 84)]) (by decide) rfl (by decide) (fun _ => rfl) (fun y6 hy6 => ?_)
          have ty6 := i_addT hy6.symm
          clear hy6
          refine wa_goto o_X12_reckonSlots_2 (by decide) ?_
          refine wa_pick [1, 0] rfl ?_
          exact ih2 _ (by ((try simp only [vp_in_iff, Int32.lt_iff_toInt_lt, Int32.le_iff_toInt_le, ← Int32.toInt_inj, Int32.reduceToInt, n_1, n_2, n_8, Int32.toNatClampNeg, Int64.lt_iff_toInt_lt, Int64.le_iff_toInt_le, ← Int64.toInt_inj, Int64.reduceToInt, Int32.toInt_toInt64, lg_cmp_ge, lg_cmp_le, lg_cmp_gt, lg_cmp_lt, lg_cmp_eq, Bool.false_eq_true, Bool.true_eq_false, reduceCtorEq, false_iff, true_iff, iff_true, iff_false, and_true, true_and, and_false, false_and, reduceIte, ite_true, ite_false, eq_self] at *)) <;> omega) _ _ ⟨Fs1, (by ((try simp only [vp_in_iff, Int32.lt_iff_toInt_lt, Int32.le_iff_toInt_le, ← Int32.toInt_inj, Int32.reduceToInt, n_1, n_2, n_8, Int32.toNatClampNeg, Int64.lt_iff_toInt_lt, Int64.le_iff_toInt_le, ← Int64.toInt_inj, Int64.reduceToInt, Int32.toInt_toInt64, lg_cmp_ge, lg_cmp_le, lg_cmp_gt, lg_cmp_lt, lg_cmp_eq, Bool.false_eq_true, Bool.true_eq_false, reduceCtorEq, false_iff, true_iff, iff_true, iff_false, and_true, true_and, and_false, false_and, reduceIte, ite_true, ite_false, eq_self] at *)) <;> omega), trivial⟩ rfl
        · replace h5 := bI_t (b := (gb s1 133 (l1).toNatClampNeg)) (rfl) h5
          have g17 : gb σ 133 (l1).toNatClampNeg = true := (Fm.gb Fs1 (q := 133) (k := (l1).toNatClampNeg) rfl rfl).symm.trans (by assumption)
          refine wa_sipush (v := 250) (by decide) ?_
          refine wa_iload_n (i := 1) rfl rfl ?_
          refine wa_imul ?_
          refine wa_top (fun v7 hv7 => ?_)
          have tv7 := i_mulT hv7
          clear hv7
          refine wa_istore_nD (lv' := [(2, .int v7), (0, .ref 84), (1, .int l1)]) (i := 2) rfl (by decide) rfl ?_
          refine wa_pick [1, 2, 0] rfl ?_
          have hi10 : ∀ (n9_23 : Nat) (l2 : Int32) (s8 : St), ((Fm [130, 131] [] σ s8) ∧ (250 * l1.toInt ≤ l2.toInt) ∧ (True)) → (2147483647 - l2.toInt).toNat = n9_23 → WA G M_X12_reckonSlots (ZM G M_X12_reckonSlots d (fun r σ' => Fm [130, 131] [] σ σ' ∧ True)) B_X12_reckonSlots_23 [(0, .ref 84), (1, .int l1), (2, .int l2)] [] s8 := by
            intro n9_23
            induction n9_23 using Nat.strongRecOn with
            | _ n9_23 ih9 =>
              intro l2 s8 i9 m9_23
              obtain ⟨Fs8, jhi10_0, -⟩ := i9
              have ul2 := Int32.toInt_lt l2
              have wl2 := Int32.le_toInt l2
              refine wa_iload_n (i := 2) rfl rfl ?_
              refine wa_sipush (v := 250) (by decide) ?_
              refine wa_iload_n (i := 1) rfl rfl ?_
              refine wa_imul ?_
              refine wa_top (fun v11 hv11 => ?_)
              have tv11 := i_mulT hv11
              clear hv11
              refine wa_aload_n (i := 0) rfl rfl ?_
              refine wa_getr ck_12 fl_12_120 ly_84 rf_84_45 ?_
              refine wa_iload_n (i := 1) rfl rfl ?_
              refine wa_iald ly_194 (by ((try simp only [vp_in_iff, Int32.lt_iff_toInt_lt, Int32.le_iff_toInt_le, ← Int32.toInt_inj, Int32.reduceToInt, n_1, n_2, n_8, Int32.toNatClampNeg, Int64.lt_iff_toInt_lt, Int64.le_iff_toInt_le, ← Int64.toInt_inj, Int64.reduceToInt, Int32.toInt_toInt64, lg_cmp_ge, lg_cmp_le, lg_cmp_gt, lg_cmp_lt, lg_cmp_eq, Bool.false_eq_true, Bool.true_eq_false, reduceCtorEq, false_iff, true_iff, iff_true, iff_false, and_true, true_and, and_false, false_and, reduceIte, ite_true, ite_false, eq_self] at *)) <;> omega) ?_
              refine wa_top (fun v12 hv12 => ?_)
              have rv12 : 0 ≤ v12.toInt ∧ v12.toInt ≤ 250 := by rw [← hv12]; exact ar_at (ar_fm Fs8 rfl rfl A_194) _
              have qv12 : gi σ 194 ((l1).toNatClampNeg) = v12 := (Fm.gi Fs8 (q := 194) (k := (l1).toNatClampNeg) rfl rfl).symm.trans hv12
              clear hv12
              refine wa_iadd ?_
              refine wa_top (fun v13 hv13 => ?_)
              have tv13 := i_addT hv13
              clear hv13
              refine wa_icmp_ge o_X12_reckonSlots_57 (by decide) (fun h14 => ?_) (fun h14 => ?_)
              · refine wa_aload_n (i := 0) rfl rfl ?_
                refine wa_getr ck_12 fl_12_310 ly_84 rf_84_123 ?_
                refine wa_iload_n (i := 1) rfl rfl ?_
                refine wa_aload_n (i := 0) rfl rfl ?_
                refine wa_getr ck_12 fl_12_313 ly_84 rf_84_124 ?_
                refine wa_aload_n (i := 0) rfl rfl ?_
                refine wa_getr ck_12 fl_12_184 ly_84 rf_84_68 ?_
                refine wa_iload_n (i := 1) rfl rfl ?_
                refine wa_iald ly_173 (by ((try simp only [vp_in_iff, Int32.lt_iff_toInt_lt, Int32.le_iff_toInt_le, ← Int32.toInt_inj, Int32.reduceToInt, n_1, n_2, n_8, Int32.toNatClampNeg, Int64.lt_iff_toInt_lt, Int64.le_iff_toInt_le, ← Int64.toInt_inj, Int64.reduceToInt, Int32.toInt_toInt64, lg_cmp_ge, lg_cmp_le, lg_cmp_gt, lg_cmp_lt, lg_cmp_eq, Bool.false_eq_true, Bool.true_eq_false, reduceCtorEq, false_iff, true_iff, iff_true, iff_false, and_true, true_and, and_false, false_and, reduceIte, ite_true, ite_false, eq_self] at *)) <;> omega) ?_
                refine wa_top (fun v15 hv15 => ?_)
                have rv15 : 0 ≤ v15.toInt ∧ v15.toInt ≤ 6499 := by rw [← hv15]; exact ar_at (ar_fm Fs8 rfl rfl A_173) _
                clear hv15
                refine wa_zald ly_130 (by ((try simp only [vp_in_iff, Int32.lt_iff_toInt_lt, Int32.le_iff_toInt_le, ← Int32.toInt_inj, Int32.reduceToInt, n_1, n_2, n_8, Int32.toNatClampNeg, Int64.lt_iff_toInt_lt, Int64.le_iff_toInt_le, ← Int64.toInt_inj, Int64.reduceToInt, Int32.toInt_toInt64, lg_cmp_ge, lg_cmp_le, lg_cmp_gt, lg_cmp_lt, lg_cmp_eq, Bool.false_eq_true, Bool.true_eq_false, reduceCtorEq, false_iff, true_iff, iff_true, iff_false, and_true, true_and, and_false, false_and, reduceIte, ite_true, ite_false, eq_self] at *)) <;> omega) ?_
                refine wa_zast (gb s8 130 (v15).toNatClampNeg) (rfl) ly_131 (by ((try simp only [vp_in_iff, Int32.lt_iff_toInt_lt, Int32.le_iff_toInt_le, ← Int32.toInt_inj, Int32.reduceToInt, n_1, n_2, n_8, Int32.toNatClampNeg, Int64.lt_iff_toInt_lt, Int64.le_iff_toInt_le, ← Int64.toInt_inj, Int64.reduceToInt, Int32.toInt_toInt64, lg_cmp_ge, lg_cmp_le, lg_cmp_gt, lg_cmp_lt, lg_cmp_eq, Bool.false_eq_true, Bool.true_eq_false, reduceCtorEq, false_iff, true_iff, iff_true, iff_false, and_true, true_and, and_false, false_and, reduceIte, ite_true, ite_false, eq_self] at *)) <;> omega) (fun s16 hs16 => ?_)
                have Fs16 : Fm [130, 131] [] σ s16 := by rw [hs16]; exact Fm.sb Fs8 rfl
                refine wa_iinc (v := (1)) (lv' := fun y17 => [(1, .int y17), (0, .ref 84), (2, .int l2)]) (by decide) rfl (by decide) (fun _ => rfl) (fun y17 hy17 => ?_)
                have ty17 := i_addT hy17.symm
                clear hy17
                refine wa_goto o_X12_reckonSlots_2 (by decide) ?_
                refine wa_pick [1, 0] rfl ?_
                exact ih2 _ (by ((try simp only [vp_in_iff, Int32.lt_iff_toInt_lt, Int32.le_iff_toInt_le, ← Int32.toInt_inj, Int32.reduceToInt, n_1, n_2, n_8, Int32.toNatClampNeg, Int64.lt_iff_toInt_lt, Int64.le_iff_toInt_le, ← Int64.toInt_inj, Int64.reduceToInt, Int32.toInt_toInt64, lg_cmp_ge, lg_cmp_le, lg_cmp_gt, lg_cmp_lt, lg_cmp_eq, Bool.false_eq_true, Bool.true_eq_false, reduceCtorEq, false_iff, true_iff, iff_true, iff_false, and_true, true_and, and_false, false_and, reduceIte, ite_true, ite_false, eq_self] at *)) <;> omega) _ _ ⟨Fs16, (by ((try simp only [vp_in_iff, Int32.lt_iff_toInt_lt, Int32.le_iff_toInt_le, ← Int32.toInt_inj, Int32.reduceToInt, n_1, n_2, n_8, Int32.toNatClampNeg, Int64.lt_iff_toInt_lt, Int64.le_iff_toInt_le, ← Int64.toInt_inj, Int64.reduceToInt, Int32.toInt_toInt64, lg_cmp_ge, lg_cmp_le, lg_cmp_gt, lg_cmp_lt, lg_cmp_eq, Bool.false_eq_true, Bool.true_eq_false, reduceCtorEq, false_iff, true_iff, iff_true, iff_false, and_true, true_and, and_false, false_and, reduceIte, ite_true, ite_false, eq_self] at *)) <;> omega), trivial⟩ rfl
              · have mh14 := nle_mx h14
                refine wa_aload_n (i := 0) rfl rfl ?_
                refine wa_getr ck_12 fl_12_313 ly_84 rf_84_124 ?_
                refine wa_iload_n (i := 2) rfl rfl ?_
                refine wa_aload_n (i := 0) rfl rfl ?_
                refine wa_iload_n (i := 1) rfl rfl ?_
                refine wa_iload_n (i := 2) rfl rfl ?_
                refine wa_Vi (d9 := d - 1) [.int _, .int _] [.int l2, .ref 130] (sp_X12_isNode G (d := d - 1) (by omega) s8 _ _ (by ((try simp only [vp_in_iff, Int32.lt_iff_toInt_lt, Int32.le_iff_toInt_le, ← Int32.toInt_inj, Int32.reduceToInt, n_1, n_2, n_8, Int32.toNatClampNeg, Int64.lt_iff_toInt_lt, Int64.le_iff_toInt_le, ← Int64.toInt_inj, Int64.reduceToInt, Int32.toInt_toInt64, lg_cmp_ge, lg_cmp_le, lg_cmp_gt, lg_cmp_lt, lg_cmp_eq, Bool.false_eq_true, Bool.true_eq_false, reduceCtorEq, false_iff, true_iff, iff_true, iff_false, and_true, true_and, and_false, false_and, reduceIte, ite_true, ite_false, eq_self] at *)) <;> omega) ((Fm.gb Fs8 (q := 133) (k := _) rfl rfl).trans g17) (by rw [Fm.gi Fs8 (q := 194) rfl rfl]; ((try simp only [vp_in_iff, Int32.lt_iff_toInt_lt, Int32.le_iff_toInt_le, ← Int32.toInt_inj, Int32.reduceToInt, n_1, n_2, n_8, Int32.toNatClampNeg, Int64.lt_iff_toInt_lt, Int64.le_iff_toInt_le, ← Int64.toInt_inj, Int64.reduceToInt, Int32.toInt_toInt64, lg_cmp_ge, lg_cmp_le, lg_cmp_gt, lg_cmp_lt, lg_cmp_eq, Bool.false_eq_true, Bool.true_eq_false, reduceCtorEq, false_iff, true_iff, iff_true, iff_false, and_true, true_and, and_false, false_and, reduceIte, ite_true, ite_false, eq_self] at *)) <;> omega) (ar_fm Fs8 rfl rfl A_134) (ar_fm Fs8 rfl rfl A_155) (ar_fm Fs8 rfl rfl A_156) (ar_fm Fs8 rfl rfl A_183) (ar_fm Fs8 rfl rfl A_184) (ar_fm Fs8 rfl rfl A_185) (ar_fm Fs8 rfl rfl A_194) (WKS_of (fun k => Fm.gb Fs8 (q := 133) (k := k) rfl rfl) (fun k => Fm.gi Fs8 (q := 156) (k := k) rfl rfl) (fun k => Fm.gi Fs8 (q := 134) (k := k) rfl rfl) P_WKS) (CLI_of (fun k => Fm.gi Fs8 (q := 183) (k := k) rfl rfl) (fun k => Fm.gi Fs8 (q := 185) (k := k) rfl rfl) (fun k => Fm.gi Fs8 (q := 184) (k := k) rfl rfl) (fun k => Fm.gi Fs8 (q := 155) (k := k) rfl rfl) (fun k => Fm.gi Fs8 (q := 156) (k := k) rfl rfl) P_CLI) (NOK_of (fun k => Fm.gi Fs8 (q := 194) (k := k) rfl rfl) (fun k => Fm.gi Fs8 (q := 195) (k := k) rfl rfl) (fun k => Fm.gi Fs8 (q := 196) (k := k) rfl rfl) (fun k => Fm.gi Fs8 (q := 197) (k := k) rfl rfl) (fun k => Fm.gi Fs8 (q := 198) (k := k) rfl rfl) (fun k => Fm.gi Fs8 (q := 183) (k := k) rfl rfl) P_NOK)) (rfl) rfl rfl (zr (by omega)) mk_X12_isNode ly_84 ml_12_946 (Nat.le_of_ble_eq_true rfl) (fun x19 s18 hs18 => ?_)
                obtain ⟨bx19, ex19, zs18, -⟩ := pB hs18
                subst ex19
                subst zs18
                refine wa_zast bx19 (rfl) ly_130 (by ((try simp only [vp_in_iff, Int32.lt_iff_toInt_lt, Int32.le_iff_toInt_le, ← Int32.toInt_inj, Int32.reduceToInt, n_1, n_2, n_8, Int32.toNatClampNeg, Int64.lt_iff_toInt_lt, Int64.le_iff_toInt_le, ← Int64.toInt_inj, Int64.reduceToInt, Int32.toInt_toInt64, lg_cmp_ge, lg_cmp_le, lg_cmp_gt, lg_cmp_lt, lg_cmp_eq, Bool.false_eq_true, Bool.true_eq_false, reduceCtorEq, false_iff, true_iff, iff_true, iff_false, and_true, true_and, and_false, false_and, reduceIte, ite_true, ite_false, eq_self] at *)) <;> omega) (fun s20 hs20 => ?_)
                have Fs20 : Fm [130, 131] [] σ s20 := by rw [hs20]; exact Fm.sb Fs8 rfl
                refine wa_iinc (v := (1)) (lv' := fun y21 => [(2, .int y21), (0, .ref 84), (1, .int l1)]) (by decide) rfl (by decide) (fun _ => rfl) (fun y21 hy21 => ?_)
                have ty21 := i_addT hy21.symm
                clear hy21
                refine wa_goto o_X12_reckonSlots_23 (by decide) ?_
                refine wa_pick [1, 2, 0] rfl ?_
                exact ih9 _ (by ((try simp only [vp_in_iff, Int32.lt_iff_toInt_lt, Int32.le_iff_toInt_le, ← Int32.toInt_inj, Int32.reduceToInt, n_1, n_2, n_8, Int32.toNatClampNeg, Int64.lt_iff_toInt_lt, Int64.le_iff_toInt_le, ← Int64.toInt_inj, Int64.reduceToInt, Int32.toInt_toInt64, lg_cmp_ge, lg_cmp_le, lg_cmp_gt, lg_cmp_lt, lg_cmp_eq, Bool.false_eq_true, Bool.true_eq_false, reduceCtorEq, false_iff, true_iff, iff_true, iff_false, and_true, true_and, and_false, false_and, reduceIte, ite_true, ite_false, eq_self] at *)) <;> omega) _ _ ⟨Fs20, (by ((try simp only [vp_in_iff, Int32.lt_iff_toInt_lt, Int32.le_iff_toInt_le, ← Int32.toInt_inj, Int32.reduceToInt, n_1, n_2, n_8, Int32.toNatClampNeg, Int64.lt_iff_toInt_lt, Int64.le_iff_toInt_le, ← Int64.toInt_inj, Int64.reduceToInt, Int32.toInt_toInt64, lg_cmp_ge, lg_cmp_le, lg_cmp_gt, lg_cmp_lt, lg_cmp_eq, Bool.false_eq_true, Bool.true_eq_false, reduceCtorEq, false_iff, true_iff, iff_true, iff_false, and_true, true_and, and_false, false_and, reduceIte, ite_true, ite_false, eq_self] at *)) <;> omega), trivial⟩ rfl
          exact hi10 _ _ _ ⟨Fs1, (by ((try simp only [vp_in_iff, Int32.lt_iff_toInt_lt, Int32.le_iff_toInt_le, ← Int32.toInt_inj, Int32.reduceToInt, n_1, n_2, n_8, Int32.toNatClampNeg, Int64.lt_iff_toInt_lt, Int64.le_iff_toInt_le, ← Int64.toInt_inj, Int64.reduceToInt, Int32.toInt_toInt64, lg_cmp_ge, lg_cmp_le, lg_cmp_gt, lg_cmp_lt, lg_cmp_eq, Bool.false_eq_true, Bool.true_eq_false, reduceCtorEq, false_iff, true_iff, iff_true, iff_false, and_true, true_and, and_false, false_and, reduceIte, ite_true, ite_false, eq_self] at *)) <;> omega), trivial⟩ rfl
  exact hi3 _ _ _ ⟨(Fm.rf [130, 131] [] σ), (by ((try simp only [vp_in_iff, Int32.lt_iff_toInt_lt, Int32.le_iff_toInt_le, ← Int32.toInt_inj, Int32.reduceToInt, n_1, n_2, n_8, Int32.toNatClampNeg, Int64.lt_iff_toInt_lt, Int64.le_iff_toInt_le, ← Int64.toInt_inj, Int64.reduceToInt, Int32.toInt_toInt64, lg_cmp_ge, lg_cmp_le, lg_cmp_gt, lg_cmp_lt, lg_cmp_eq, Bool.false_eq_true, Bool.true_eq_false, reduceCtorEq, false_iff, true_iff, iff_true, iff_false, and_true, true_and, and_false, false_and, reduceIte, ite_true, ite_false, eq_self] at *)) <;> omega), trivial⟩ rfl
set_option maxHeartbeats 4000000 in
theorem sp_X12_putOn (G : kG9) {d : Nat} (hd : 2 ≤ d) (σ : St) (r1 : 0 ≤ (gi σ 84 33).toInt ∧ (gi σ 84 33).toInt ≤ 24) (A_135 : AR ap_135 σ 135) (A_136 : AR ap_136 σ 136) (A_137 : AR ap_137 σ 137) (A_156 : AR ap_156 σ 156) (A_157 : AR ap_157 σ 157) (A_158 : AR ap_158 σ 158) (A_159 : AR ap_159 σ 159) (P_AOK : AOK σ) (P_WOK : WOK σ) : Ct G M_X12_putOn d [.ref 84] σ (fun r σ' => Fm [133, 135, 136, 137] [119] σ σ' ∧ ((gi σ' 84 119).toInt ≤ 576 ∧ 0 ≤ (gi σ' 84 119).toInt) ∧ AR ap_135 σ' 135 ∧ AR ap_136 σ' 136 ∧ AR ap_137 σ' 137 ∧ WOK σ' ∧ INW σ' ∧ True) := by
  refine wa_start (by decide) rfl (Nat.le_of_ble_eq_true rfl) (lv := [(0, .ref 84)]) rfl o_X12_putOn_0 rfl ?_
  refine wa_aload_n (i := 0) rfl rfl ?_
  refine wa_Vv (d9 := d - 1) [] [] (sp_X12_idle G (d := d - 1) (by omega) σ ) (rfl) rfl rfl (zr (by omega)) mk_X12_idle ly_84 ml_12_934 (Nat.le_of_ble_eq_true rfl) (fun s1 hs1 => ?_)
  obtain ⟨fs1, cx2_1, Ps1_INW, -⟩ := hs1
  have Fs1 : Fm [133, 135, 136, 137] [119] σ s1 := Fm.tr (Fm.rf [133, 135, 136, 137] [119] σ) (Fm.wd fs1 rfl rfl)
  refine wa_iconst (v := 0) (by decide) ?_
  refine wa_istore_nD (lv' := [(1, .int 0), (0, .ref 84)]) (i := 1) rfl (by decide) rfl ?_
  refine wa_pick [1, 0] rfl ?_
  have hi5 : ∀ (n9_6 : Nat) (l1 : Int32) (s3 : St), ((Fm [133, 135, 136, 137] [119] σ s3) ∧ (gi s3 84 33 = gi σ 84 33) ∧ (AR ap_135 s3 135) ∧ (AR ap_136 s3 136) ∧ (AR ap_137 s3 137) ∧ (WOK s3) ∧ (INW s3) ∧ (0 ≤ l1.toInt) ∧ (l1.toInt ≤ 24) ∧ ((gi s3 84 119).toInt ≤ 24 * l1.toInt) ∧ (0 ≤ (gi s3 84 119).toInt) ∧ (True)) → (2147483647 - l1.toInt).toNat = n9_6 → WA G M_X12_putOn (ZM G M_X12_putOn d (fun r σ' => Fm [133, 135, 136, 137] [119] σ σ' ∧ ((gi σ' 84 119).toInt ≤ 576 ∧ 0 ≤ (gi σ' 84 119).toInt) ∧ AR ap_135 σ' 135 ∧ AR ap_136 σ' 136 ∧ AR ap_137 σ' 137 ∧ WOK σ' ∧ INW σ' ∧ True)) B_X12_putOn_6 [(0, .ref 84), (1, .int l1)] [] s3 := by
    intro n9_6
    induction n9_6 using Nat.strongRecOn with
    | _ n9_6 ih4 =>
      intro l1 s3 i9 m9_6
      obtain ⟨Fs3, khi5_0, As3_135, As3_136, As3_137, Ps3_WOK, Ps3_INW, jhi5_0, jhi5_1, jhi5_2, jhi5_3, -⟩ := i9
      have ul1 := Int32.toInt_lt l1
      have wl1 := Int32.le_toInt l1
      refine wa_iload_n (i := 1) rfl rfl ?_
      refine wa_aload_n (i := 0) rfl rfl ?_
      refine wa_geti ck_12 fl_12_818 ly_84 ?_
      refine wa_rw (khi5_0) ?_
      refine wa_icmp_ge o_X12_putOn_34 (by decide) (fun h6 => ?_) (fun h6 => ?_)
      · refine wa_return (st := []) rfl rfl ?_
        exact ⟨Fs3, (by first | assumption | (((try simp only [vp_in_iff, Int32.lt_iff_toInt_lt, Int32.le_iff_toInt_le, ← Int32.toInt_inj, Int32.reduceToInt, n_1, n_2, n_8, Int32.toNatClampNeg, Int64.lt_iff_toInt_lt, Int64.le_iff_toInt_le, ← Int64.toInt_inj, Int64.reduceToInt, Int32.toInt_toInt64, lg_cmp_ge, lg_cmp_le, lg_cmp_gt, lg_cmp_lt, lg_cmp_eq, Bool.false_eq_true, Bool.true_eq_false, reduceCtorEq, false_iff, true_iff, iff_true, iff_false, and_true, true_and, and_false, false_and, reduceIte, ite_true, ite_false, eq_self] at *)) <;> omega)), As3_135, As3_136, As3_137, Ps3_WOK, Ps3_INW, trivial⟩
      · have mh6 := nle_mx h6
        refine wa_aload_n (i := 0) rfl rfl ?_
        refine wa_getr ck_12 fl_12_265 ly_84 rf_84_103 ?_
        refine wa_iload_n (i := 1) rfl rfl ?_
        refine wa_zald ly_146 (by ((try simp only [vp_in_iff, Int32.lt_iff_toInt_lt, Int32.le_iff_toInt_le, ← Int32.toInt_inj, Int32.reduceToInt, n_1, n_2, n_8, Int32.toNatClampNeg, Int64.lt_iff_toInt_lt, Int64.le_iff_toInt_le, ← Int64.toInt_inj, Int64.reduceToInt, Int32.toInt_toInt64, lg_cmp_ge, lg_cmp_le, lg_cmp_gt, lg_cmp_lt, lg_cmp_eq, Bool.false_eq_true, Bool.true_eq_false, reduceCtorEq, false_iff, true_iff, iff_true, iff_false, and_true, true_and, and_false, false_and, reduceIte, ite_true, ite_false, eq_self] at *)) <;> omega) ?_
        refine wa_if_eq o_X12_putOn_28 (by decide) (fun h7 => ?_) (fun h7 => ?_)
        · replace h7 := bI_f (b := (gb s3 146 (l1).toNatClampNeg)) (rfl) h7
          refine wa_iinc (v := (1)) (lv' := fun y8 => [(1, .int y8), (0, .ref 84)]) (by decide) rfl (by decide) (fun _ => rfl) (fun y8 hy8 => ?_)
          have ty8 := i_addT hy8.symm
          clear hy8
          refine wa_goto o_X12_putOn_6 (by decide) ?_
          refine wa_pick [1, 0] rfl ?_
          exact ih4 _ (by ((try simp only [vp_in_iff, Int32.lt_iff_toInt_lt, Int32.le_iff_toInt_le, ← Int32.toInt_inj, Int32.reduceToInt, n_1, n_2, n_8, Int32.toNatClampNeg, Int64.lt_iff_toInt_lt, Int64.le_iff_toInt_le, ← Int64.toInt_inj, Int64.reduceToInt, Int32.toInt_toInt64, lg_cmp_ge, lg_cmp_le, lg_cmp_gt, lg_cmp_lt, lg_cmp_eq, Bool.false_eq_true, Bool.true_eq_false, reduceCtorEq, false_iff, true_iff, iff_true, iff_false, and_true, true_and, and_false, false_and, reduceIte, ite_true, ite_false, eq_self] at *)) <;> omega) _ _ ⟨Fs3, (khi5_0), As3_135, As3_136, As3_137, Ps3_WOK, Ps3_INW, (by ((try simp only [vp_in_iff, Int32.lt_iff_toInt_lt, Int32.le_iff_toInt_le, ← Int32.toInt_inj, Int32.reduceToInt, n_1, n_2, n_8, Int32.toNatClampNeg, Int64.lt_iff_toInt_lt, Int64.le_iff_toInt_le, ← Int64.toInt_inj, Int64.reduceToInt, Int32.toInt_toInt64, lg_cmp_ge, lg_cmp_le, lg_cmp_gt, lg_cmp_lt, lg_cmp_eq, Bool.false_eq_true, Bool.true_eq_false, reduceCtorEq, false_iff, true_iff, iff_true, iff_false, and_true, true_and, and_false, false_and, reduceIte, ite_true, ite_false, eq_self] at *)) <;> omega), (by ((try simp only [vp_in_iff, Int32.lt_iff_toInt_lt, Int32.le_iff_toInt_le, ← Int32.toInt_inj, Int32.reduceToInt, n_1, n_2, n_8, Int32.toNatClampNeg, Int64.lt_iff_toInt_lt, Int64.le_iff_toInt_le, ← Int64.toInt_inj, Int64.reduceToInt, Int32.toInt_toInt64, lg_cmp_ge, lg_cmp_le, lg_cmp_gt, lg_cmp_lt, lg_cmp_eq, Bool.false_eq_true, Bool.true_eq_false, reduceCtorEq, false_iff, true_iff, iff_true, iff_false, and_true, true_and, and_false, false_and, reduceIte, ite_true, ite_false, eq_self] at *)) <;> omega), (by first | assumption | (((try simp only [vp_in_iff, Int32.lt_iff_toInt_lt, Int32.le_iff_toInt_le, ← Int32.toInt_inj, Int32.reduceToInt, n_1, n_2, n_8, Int32.toNatClampNeg, Int64.lt_iff_toInt_lt, Int64.le_iff_toInt_le, ← Int64.toInt_inj, Int64.reduceToInt, Int32.toInt_toInt64, lg_cmp_ge, lg_cmp_le, lg_cmp_gt, lg_cmp_lt, lg_cmp_eq, Bool.false_eq_true, Bool.true_eq_false, reduceCtorEq, false_iff, true_iff, iff_true, iff_false, and_true, true_and, and_false, false_and, reduceIte, ite_true, ite_false, eq_self] at *)) <;> omega)), (by first | assumption | (((try simp only [vp_in_iff, Int32.lt_iff_toInt_lt, Int32.le_iff_toInt_le, ← Int32.toInt_inj, Int32.reduceToInt, n_1, n_2, n_8, Int32.toNatClampNeg, Int64.lt_iff_toInt_lt, Int64.le_iff_toInt_le, ← Int64.toInt_inj, Int64.reduceToInt, Int32.toInt_toInt64, lg_cmp_ge, lg_cmp_le, lg_cmp_gt, lg_cmp_lt, lg_cmp_eq, Bool.false_eq_true, Bool.true_eq_false, reduceCtorEq, false_iff, true_iff, iff_true, iff_false, and_true, true_and, and_false, false_and, reduceIte, ite_true, ite_false, eq_self] at *)) <;> omega)), trivial⟩ rfl
        · replace h7 := bI_t (b := (gb s3 146 (l1).toNatClampNeg)) (rfl) h7
          refine wa_aload_n (i := 0) rfl rfl ?_
          refine wa_iload_n (i := 1) rfl rfl ?_
          refine wa_Vv (d9 := d - 1) [.int _] [] (sp_X12_put G (d := d - 1) (by omega) s3 _ (by ((try simp only [vp_in_iff, Int32.lt_iff_toInt_lt, Int32.le_iff_toInt_le, ← Int32.toInt_inj, Int32.reduceToInt, n_1, n_2, n_8, Int32.toNatClampNeg, Int64.lt_iff_toInt_lt, Int64.le_iff_toInt_le, ← Int64.toInt_inj, Int64.reduceToInt, Int32.toInt_toInt64, lg_cmp_ge, lg_cmp_le, lg_cmp_gt, lg_cmp_lt, lg_cmp_eq, Bool.false_eq_true, Bool.true_eq_false, reduceCtorEq, false_iff, true_iff, iff_true, iff_false, and_true, true_and, and_false, false_and, reduceIte, ite_true, ite_false, eq_self] at *)) <;> omega) (by first | assumption | exact Or.inl rfl | exact Or.inr rfl | (((try simp only [vp_in_iff, Int32.lt_iff_toInt_lt, Int32.le_iff_toInt_le, ← Int32.toInt_inj, Int32.reduceToInt, n_1, n_2, n_8, Int32.toNatClampNeg, Int64.lt_iff_toInt_lt, Int64.le_iff_toInt_le, ← Int64.toInt_inj, Int64.reduceToInt, Int32.toInt_toInt64, lg_cmp_ge, lg_cmp_le, lg_cmp_gt, lg_cmp_lt, lg_cmp_eq, Bool.false_eq_true, Bool.true_eq_false, reduceCtorEq, false_iff, true_iff, iff_true, iff_false, and_true, true_and, and_false, false_and, reduceIte, ite_true, ite_false, eq_self] at *)) <;> omega)) As3_135 As3_136 As3_137 (ar_fm Fs3 rfl rfl A_156) (ar_fm Fs3 rfl rfl A_157) (ar_fm Fs3 rfl rfl A_158) (ar_fm Fs3 rfl rfl A_159) Ps3_INW (AOK_of (fun k => Fm.gi Fs3 (q := 157) (k := k) rfl rfl) (fun k => Fm.gi Fs3 (q := 158) (k := k) rfl rfl) P_AOK) Ps3_WOK) (rfl) rfl rfl (zr (by omega)) mk_X12_put ly_84 ml_12_937 (Nat.le_of_ble_eq_true rfl) (fun s9 hs9 => ?_)
          obtain ⟨fs9, cx10_1, cx10_2, As9_135, As9_136, As9_137, Ps9_INW, Ps9_WOK, -⟩ := hs9
          have Fs9 : Fm [133, 135, 136, 137] [119] σ s9 := Fm.tr Fs3 (Fm.wd fs9 rfl rfl)
          refine wa_iinc (v := (1)) (lv' := fun y11 => [(1, .int y11), (0, .ref 84)]) (by decide) rfl (by decide) (fun _ => rfl) (fun y11 hy11 => ?_)
          have ty11 := i_addT hy11.symm
          clear hy11
          refine wa_goto o_X12_putOn_6 (by decide) ?_
          refine wa_pick [1, 0] rfl ?_
          exact ih4 _ (by ((try simp only [vp_in_iff, Int32.lt_iff_toInt_lt, Int32.le_iff_toInt_le, ← Int32.toInt_inj, Int32.reduceToInt, n_1, n_2, n_8, Int32.toNatClampNeg, Int64.lt_iff_toInt_lt, Int64.le_iff_toInt_le, ← Int64.toInt_inj, Int64.reduceToInt, Int32.toInt_toInt64, lg_cmp_ge, lg_cmp_le, lg_cmp_gt, lg_cmp_lt, lg_cmp_eq, Bool.false_eq_true, Bool.true_eq_false, reduceCtorEq, false_iff, true_iff, iff_true, iff_false, and_true, true_and, and_false, false_and, reduceIte, ite_true, ite_false, eq_self] at *)) <;> omega) _ _ ⟨Fs9, ((Fm.gi fs9 (q := 84) (k := 33) rfl rfl).trans (khi5_0)), As9_135, As9_136, As9_137, Ps9_WOK, Ps9_INW, (by ((try simp only [vp_in_iff, Int32.lt_iff_toInt_lt, Int32.le_iff_toInt_le, ← Int32.toInt_inj, Int32.reduceToInt, n_1, n_2, n_8, Int32.toNatClampNeg, Int64.lt_iff_toInt_lt, Int64.le_iff_toInt_le, ← Int64.toInt_inj, Int64.reduceToInt, Int32.toInt_toInt64, lg_cmp_ge, lg_cmp_le, lg_cmp_gt, lg_cmp_lt, lg_cmp_eq, Bool.false_eq_true, Bool.true_eq_false, reduceCtorEq, false_iff, true_iff, iff_true, iff_false, and_true, true_and, and_false, false_and, reduceIte, ite_true, ite_false, eq_self] at *)) <;> omega), (by ((try simp only [vp_in_iff, Int32.lt_iff_toInt_lt, Int32.le_iff_toInt_le, ← Int32.toInt_inj, Int32.reduceToInt, n_1, n_2, n_8, Int32.toNatClampNeg, Int64.lt_iff_toInt_lt, Int64.le_iff_toInt_le, ← Int64.toInt_inj, Int64.reduceToInt, Int32.toInt_toInt64, lg_cmp_ge, lg_cmp_le, lg_cmp_gt, lg_cmp_lt, lg_cmp_eq, Bool.false_eq_true, Bool.true_eq_false, reduceCtorEq, false_iff, true_iff, iff_true, iff_false, and_true, true_and, and_false, false_and, reduceIte, ite_true, ite_false, eq_self] at *)) <;> omega), (by first | assumption | (((try simp only [vp_in_iff, Int32.lt_iff_toInt_lt, Int32.le_iff_toInt_le, ← Int32.toInt_inj, Int32.reduceToInt, n_1, n_2, n_8, Int32.toNatClampNeg, Int64.lt_iff_toInt_lt, Int64.le_iff_toInt_le, ← Int64.toInt_inj, Int64.reduceToInt, Int32.toInt_toInt64, lg_cmp_ge, lg_cmp_le, lg_cmp_gt, lg_cmp_lt, lg_cmp_eq, Bool.false_eq_true, Bool.true_eq_false, reduceCtorEq, false_iff, true_iff, iff_true, iff_false, and_true, true_and, and_false, false_and, reduceIte, ite_true, ite_false, eq_self] at *)) <;> omega)), (by first | assumption | (((try simp only [vp_in_iff, Int32.lt_iff_toInt_lt, Int32.le_iff_toInt_le, ← Int32.toInt_inj, Int32.reduceToInt, n_1, n_2, n_8, Int32.toNatClampNeg, Int64.lt_iff_toInt_lt, Int64.le_iff_toInt_le, ← Int64.toInt_inj, Int64.reduceToInt, Int32.toInt_toInt64, lg_cmp_ge, lg_cmp_le, lg_cmp_gt, lg_cmp_lt, lg_cmp_eq, Bool.false_eq_true, Bool.true_eq_false, reduceCtorEq, false_iff, true_iff, iff_true, iff_false, and_true, true_and, and_false, false_and, reduceIte, ite_true, ite_false, eq_self] at *)) <;> omega)), trivial⟩ rfl
  exact hi5 _ _ _ ⟨Fs1, (Fm.gi fs1 (q := 84) (k := 33) rfl rfl), (ar_fm fs1 rfl rfl A_135), (ar_fm fs1 rfl rfl A_136), (ar_fm fs1 rfl rfl A_137), (WOK_of (fun k => Fm.gi fs1 (q := 135) (k := k) rfl rfl) (fun k => Fm.gi fs1 (q := 136) (k := k) rfl rfl) P_WOK), Ps1_INW, (by ((try simp only [vp_in_iff, Int32.lt_iff_toInt_lt, Int32.le_iff_toInt_le, ← Int32.toInt_inj, Int32.reduceToInt, n_1, n_2, n_8, Int32.toNatClampNeg, Int64.lt_iff_toInt_lt, Int64.le_iff_toInt_le, ← Int64.toInt_inj, Int64.reduceToInt, Int32.toInt_toInt64, lg_cmp_ge, lg_cmp_le, lg_cmp_gt, lg_cmp_lt, lg_cmp_eq, Bool.false_eq_true, Bool.true_eq_false, reduceCtorEq, false_iff, true_iff, iff_true, iff_false, and_true, true_and, and_false, false_and, reduceIte, ite_true, ite_false, eq_self] at *)) <;> omega), (by ((try simp only [vp_in_iff, Int32.lt_iff_toInt_lt, Int32.le_iff_toInt_le, ← Int32.toInt_inj, Int32.reduceToInt, n_1, n_2, n_8, Int32.toNatClampNeg, Int64.lt_iff_toInt_lt, Int64.le_iff_toInt_le, ← Int64.toInt_inj, Int64.reduceToInt, Int32.toInt_toInt64, lg_cmp_ge, lg_cmp_le, lg_cmp_gt, lg_cmp_lt, lg_cmp_eq, Bool.false_eq_true, Bool.true_eq_false, reduceCtorEq, false_iff, true_iff, iff_true, iff_false, and_true, true_and, and_false, false_and, reduceIte, ite_true, ite_false, eq_self] at *)) <;> omega), (by first | assumption | (((try simp only [vp_in_iff, Int32.lt_iff_toInt_lt, Int32.le_iff_toInt_le, ← Int32.toInt_inj, Int32.reduceToInt, n_1, n_2, n_8, Int32.toNatClampNeg, Int64.lt_iff_toInt_lt, Int64.le_iff_toInt_le, ← Int64.toInt_inj, Int64.reduceToInt, Int32.toInt_toInt64, lg_cmp_ge, lg_cmp_le, lg_cmp_gt, lg_cmp_lt, lg_cmp_eq, Bool.false_eq_true, Bool.true_eq_false, reduceCtorEq, false_iff, true_iff, iff_true, iff_false, and_true, true_and, and_false, false_and, reduceIte, ite_true, ite_false, eq_self] at *)) <;> omega)), (by first | assumption | (((try simp only [vp_in_iff, Int32.lt_iff_toInt_lt, Int32.le_iff_toInt_le, ← Int32.toInt_inj, Int32.reduceToInt, n_1, n_2, n_8, Int32.toNatClampNeg, Int64.lt_iff_toInt_lt, Int64.le_iff_toInt_le, ← Int64.toInt_inj, Int64.reduceToInt, Int32.toInt_toInt64, lg_cmp_ge, lg_cmp_le, lg_cmp_gt, lg_cmp_lt, lg_cmp_eq, Bool.false_eq_true, Bool.true_eq_false, reduceCtorEq, false_iff, true_iff, iff_true, iff_false, and_true, true_and, and_false, false_and, reduceIte, ite_true, ite_false, eq_self] at *)) <;> omega)), trivial⟩ rfl
set_option maxHeartbeats 4000000 in
theorem sp_X12_placeOf (G : kG9) {d : Nat} (hd : 0 ≤ d) (σ : St) (r1 : (gi σ 84 119).toInt ≤ 32) (r2 : 0 ≤ (gi σ 84 129).toInt ∧ (gi σ 84 129).toInt ≤ 3000) (P_CHA : CHA σ) (P_HDS : HDS σ) (P_DI : DI σ) (P_DV : DV σ) : Ct G M_X12_placeOf d [.ref 84] σ (fun r σ' => ∃ x : Int32, r = some (.int x) ∧ Fm [126, 127, 129] [129] σ σ' ∧ (0 ≤ x.toInt ∧ x.toInt ≤ 3000) ∧ ((gi σ 84 129).toInt ≤ (gi σ' 84 129).toInt) ∧ (x.toInt < (gi σ' 84 129).toInt ∨ (x.toInt = 3000 ∧ 3000 ≤ (gi σ' 84 129).toInt)) ∧ (0 ≤ (gi σ' 84 129).toInt ∧ (gi σ' 84 129).toInt ≤ 3000) ∧ CHA σ' ∧ HDS σ' ∧ DV σ' ∧ True) := by
  refine wa_start (by decide) rfl (Nat.le_of_ble_eq_true rfl) (lv := [(0, .ref 84)]) rfl o_X12_placeOf_0 rfl ?_
  refine wa_bipush (v := 17) (by decide) ?_
  refine wa_istore_nD (lv' := [(1, .int 17), (0, .ref 84)]) (i := 1) rfl (by decide) rfl ?_
  refine wa_iconst (v := 0) (by decide) ?_
  refine wa_istore_nD (lv' := [(2, .int 0), (1, .int 17), (0, .ref 84)]) (i := 2) rfl (by decide) rfl ?_
  refine wa_pick [2, 1, 0] rfl ?_
  have hi2 : ∀ (n9_5 : Nat) (l1 : Int32) (l2 : Int32), ((0 ≤ l2.toInt) ∧ (True)) → (2147483647 - l2.toInt).toNat = n9_5 → WA G M_X12_placeOf (ZM G M_X12_placeOf d (fun r σ' => ∃ x : Int32, r = some (.int x) ∧ Fm [126, 127, 129] [129] σ σ' ∧ (0 ≤ x.toInt ∧ x.toInt ≤ 3000) ∧ ((gi σ 84 129).toInt ≤ (gi σ' 84 129).toInt) ∧ (x.toInt < (gi σ' 84 129).toInt ∨ (x.toInt = 3000 ∧ 3000 ≤ (gi σ' 84 129).toInt)) ∧ (0 ≤ (gi σ' 84 129).toInt ∧ (gi σ' 84 129).toInt ≤ 3000) ∧ CHA σ' ∧ HDS σ' ∧ DV σ' ∧ True)) B_X12_placeOf_5 [(0, .ref 84), (1, .int l1), (2, .int l2)] [] σ := by
    intro n9_5
    induction n9_5 using Nat.strongRecOn with
    | _ n9_5 ih1 =>
      intro l1 l2  i9 m9_5
      obtain ⟨jhi2_0, -⟩ := i9
      have ul1 := Int32.toInt_lt l1
      have wl1 := Int32.le_toInt l1
      have ul2 := Int32.toInt_lt l2
      have wl2 := Int32.le_toInt l2
      refine wa_iload_n (i := 2) rfl rfl ?_
      refine wa_aload_n (i := 0) rfl rfl ?_
      refine wa_geti ck_12 fl_12_928 ly_84 ?_
      refine wa_icmp_ge o_X12_placeOf_39 (by decide) (fun h3 => ?_) (fun h3 => ?_)
      · refine wa_iload_n (i := 1) rfl rfl ?_
        refine wa_sipush (v := 32767) (by decide) ?_
        refine wa_iand ?_
        refine wa_top (fun v4 hv4 => ?_)
        have tv4 := i_andT hv4
        clear hv4
        refine wa_istore_nD (lv' := [(1, .int v4), (0, .ref 84), (2, .int l2)]) (i := 1) rfl (by decide) rfl ?_
        refine wa_aload_n (i := 0) rfl rfl ?_
        refine wa_getr ck_12 fl_12_325 ly_84 rf_84_127 ?_
        refine wa_iload_n (i := 1) rfl rfl ?_
        refine wa_iald ly_127 (by ((try simp only [vp_in_iff, Int32.lt_iff_toInt_lt, Int32.le_iff_toInt_le, ← Int32.toInt_inj, Int32.reduceToInt, n_1, n_2, n_8, Int32.toNatClampNeg, Int64.lt_iff_toInt_lt, Int64.le_iff_toInt_le, ← Int64.toInt_inj, Int64.reduceToInt, Int32.toInt_toInt64, lg_cmp_ge, lg_cmp_le, lg_cmp_gt, lg_cmp_lt, lg_cmp_eq, Bool.false_eq_true, Bool.true_eq_false, reduceCtorEq, false_iff, true_iff, iff_true, iff_false, and_true, true_and, and_false, false_and, reduceIte, ite_true, ite_false, eq_self] at *)) <;> omega) ?_
        refine wa_top (fun v5 hv5 => ?_)
        have rv5 := hds_at P_HDS hv5 (by ((try simp only [vp_in_iff, Int32.lt_iff_toInt_lt, Int32.le_iff_toInt_le, ← Int32.toInt_inj, Int32.reduceToInt, n_1, n_2, n_8, Int32.toNatClampNeg, Int64.lt_iff_toInt_lt, Int64.le_iff_toInt_le, ← Int64.toInt_inj, Int64.reduceToInt, Int32.toInt_toInt64, lg_cmp_ge, lg_cmp_le, lg_cmp_gt, lg_cmp_lt, lg_cmp_eq, Bool.false_eq_true, Bool.true_eq_false, reduceCtorEq, false_iff, true_iff, iff_true, iff_false, and_true, true_and, and_false, false_and, reduceIte, ite_true, ite_false, eq_self] at *)) <;> omega)
        have qv5 := hv5
        clear hv5
        refine wa_istore_nD (lv' := [(2, .int v5), (1, .int v4), (0, .ref 84)]) (i := 2) rfl (by decide) rfl ?_
        refine wa_pick [2, 1, 0] rfl ?_
        have hi7 : ∀ (n9_52 : Nat) (l2 : Int32), ((-1 ≤ l2.toInt) ∧ (l2.toInt < (gi σ 84 129).toInt) ∧ (True)) → (l2.toInt + 1).toNat = n9_52 → WA G M_X12_placeOf (ZM G M_X12_placeOf d (fun r σ' => ∃ x : Int32, r = some (.int x) ∧ Fm [126, 127, 129] [129] σ σ' ∧ (0 ≤ x.toInt ∧ x.toInt ≤ 3000) ∧ ((gi σ 84 129).toInt ≤ (gi σ' 84 129).toInt) ∧ (x.toInt < (gi σ' 84 129).toInt ∨ (x.toInt = 3000 ∧ 3000 ≤ (gi σ' 84 129).toInt)) ∧ (0 ≤ (gi σ' 84 129).toInt ∧ (gi σ' 84 129).toInt ≤ 3000) ∧ CHA σ' ∧ HDS σ' ∧ DV σ' ∧ True)) B_X12_placeOf_52 [(0, .ref 84), (1, .int v4), (2, .int l2)] [] σ := by
          intro n9_52
          induction n9_52 using Nat.strongRecOn with
          | _ n9_52 ih6 =>
            intro l2  i9 m9_52
            obtain ⟨jhi7_0, jhi7_1, -⟩ := i9
            have ul2 := Int32.toInt_lt l2
            have wl2 := Int32.le_toInt l2
            refine wa_iload_n (i := 2) rfl rfl ?_
            refine wa_iconst (v := (-1)) (by decide) ?_
            refine wa_icmp_eq o_X12_placeOf_125 (by decide) (fun h8 => ?_) (fun h8 => ?_)
            · refine wa_aload_n (i := 0) rfl rfl ?_
              refine wa_geti ck_12 fl_12_957 ly_84 ?_
              refine wa_sipush (v := 3000) (by decide) ?_
              refine wa_icmp_ne o_X12_placeOf_139 (by decide) (fun h9 => ?_) (fun h9 => ?_)
              · refine wa_iconst (v := 0) (by decide) ?_
                refine wa_istore_nD (lv' := [(2, .int 0), (0, .ref 84), (1, .int v4)]) (i := 2) rfl (by decide) rfl ?_
                refine wa_pick [1, 2, 0] rfl ?_
                have hi12 : ∀ (n9_141 : Nat) (l2 : Int32) (s10 : St), ((Fm [126, 127, 129] [129] σ s10) ∧ (gi s10 84 119 = gi σ 84 119) ∧ (gi s10 84 129 = gi σ 84 129) ∧ (CHA s10) ∧ (HDS s10) ∧ (DV s10) ∧ (0 ≤ l2.toInt) ∧ (∀ k : Nat, (k : Int) < l2.toInt → gi s10 129 (32 * (gi s10 84 129).toInt.toNat + k) = gi s10 125 k) ∧ (True)) → (2147483647 - l2.toInt).toNat = n9_141 → WA G M_X12_placeOf (ZM G M_X12_placeOf d (fun r σ' => ∃ x : Int32, r = some (.int x) ∧ Fm [126, 127, 129] [129] σ σ' ∧ (0 ≤ x.toInt ∧ x.toInt ≤ 3000) ∧ ((gi σ 84 129).toInt ≤ (gi σ' 84 129).toInt) ∧ (x.toInt < (gi σ' 84 129).toInt ∨ (x.toInt = 3000 ∧ 3000 ≤ (gi σ' 84 129).toInt)) ∧ (0 ≤ (gi σ' 84 129).toInt ∧ (gi σ' 84 129).toInt ≤ 3000) ∧ CHA σ' ∧ HDS σ' ∧ DV σ' ∧ True)) B_X12_placeOf_141 [(0, .ref 84), (1, .int v4), (2, .int l2)] [] s10 := by
                  intro n9_141
                  induction n9_141 using Nat.strongRecOn with
                  | _ n9_141 ih11 =>
                    intro l2 s10 i9 m9_141
                    obtain ⟨Fs10, khi12_0, khi12_1, Ps10_CHA, Ps10_HDS, Ps10_DV, jhi12_0, jhi12_1, -⟩ := i9
                    have ul2 := Int32.toInt_lt l2
                    have wl2 := Int32.le_toInt l2
                    refine wa_iload_n (i := 2) rfl rfl ?_
                    refine wa_aload_n (i := 0) rfl rfl ?_
                    refine wa_geti ck_12 fl_12_928 ly_84 ?_
                    refine wa_rw (khi12_0) ?_
                    refine wa_icmp_ge o_X12_placeOf_175 (by decide) (fun h13 => ?_) (fun h13 => ?_)
                    · refine wa_aload_n (i := 0) rfl rfl ?_
                      refine wa_getr ck_12 fl_12_328 ly_84 rf_84_128 ?_
                      refine wa_aload_n (i := 0) rfl rfl ?_
                      refine wa_geti ck_12 fl_12_957 ly_84 ?_
                      refine wa_rw (khi12_1) ?_
                      refine wa_aload_n (i := 0) rfl rfl ?_
                      refine wa_getr ck_12 fl_12_325 ly_84 rf_84_127 ?_
                      refine wa_iload_n (i := 1) rfl rfl ?_
                      refine wa_iald ly_127 (by ((try simp only [vp_in_iff, Int32.lt_iff_toInt_lt, Int32.le_iff_toInt_le, ← Int32.toInt_inj, Int32.reduceToInt, n_1, n_2, n_8, Int32.toNatClampNeg, Int64.lt_iff_toInt_lt, Int64.le_iff_toInt_le, ← Int64.toInt_inj, Int64.reduceToInt, Int32.toInt_toInt64, lg_cmp_ge, lg_cmp_le, lg_cmp_gt, lg_cmp_lt, lg_cmp_eq, Bool.false_eq_true, Bool.true_eq_false, reduceCtorEq, false_iff, true_iff, iff_true, iff_false, and_true, true_and, and_false, false_and, reduceIte, ite_true, ite_false, eq_self] at *)) <;> omega) ?_
                      refine wa_top (fun v14 hv14 => ?_)
                      have rv14 := hds_at Ps10_HDS hv14 (by ((try simp only [vp_in_iff, Int32.lt_iff_toInt_lt, Int32.le_iff_toInt_le, ← Int32.toInt_inj, Int32.reduceToInt, n_1, n_2, n_8, Int32.toNatClampNeg, Int64.lt_iff_toInt_lt, Int64.le_iff_toInt_le, ← Int64.toInt_inj, Int64.reduceToInt, Int32.toInt_toInt64, lg_cmp_ge, lg_cmp_le, lg_cmp_gt, lg_cmp_lt, lg_cmp_eq, Bool.false_eq_true, Bool.true_eq_false, reduceCtorEq, false_iff, true_iff, iff_true, iff_false, and_true, true_and, and_false, false_and, reduceIte, ite_true, ite_false, eq_self] at *)) <;> omega)
                      have qv14 := hv14
                      clear hv14
                      refine wa_iast ly_126 (by ((try simp only [vp_in_iff, Int32.lt_iff_toInt_lt, Int32.le_iff_toInt_le, ← Int32.toInt_inj, Int32.reduceToInt, n_1, n_2, n_8, Int32.toNatClampNeg, Int64.lt_iff_toInt_lt, Int64.le_iff_toInt_le, ← Int64.toInt_inj, Int64.reduceToInt, Int32.toInt_toInt64, lg_cmp_ge, lg_cmp_le, lg_cmp_gt, lg_cmp_lt, lg_cmp_eq, Bool.false_eq_true, Bool.true_eq_false, reduceCtorEq, false_iff, true_iff, iff_true, iff_false, and_true, true_and, and_false, false_and, reduceIte, ite_true, ite_false, eq_self] at *)) <;> omega) (fun s15 hs15 => ?_)
                      have Fs15 : Fm [126, 127, 129] [129] σ s15 := by rw [hs15]; exact Fm.si Fs10 rfl
                      refine wa_aload_n (i := 0) rfl rfl ?_
                      refine wa_getr ck_12 fl_12_325 ly_84 rf_84_127 ?_
                      refine wa_iload_n (i := 1) rfl rfl ?_
                      refine wa_aload_n (i := 0) rfl rfl ?_
                      refine wa_geti ck_12 fl_12_957 ly_84 ?_
                      refine wa_rw ((nxq_gi_si hs15 (by decide)).trans (khi12_1)) ?_
                      refine wa_iast ly_127 (by ((try simp only [vp_in_iff, Int32.lt_iff_toInt_lt, Int32.le_iff_toInt_le, ← Int32.toInt_inj, Int32.reduceToInt, n_1, n_2, n_8, Int32.toNatClampNeg, Int64.lt_iff_toInt_lt, Int64.le_iff_toInt_le, ← Int64.toInt_inj, Int64.reduceToInt, Int32.toInt_toInt64, lg_cmp_ge, lg_cmp_le, lg_cmp_gt, lg_cmp_lt, lg_cmp_eq, Bool.false_eq_true, Bool.true_eq_false, reduceCtorEq, false_iff, true_iff, iff_true, iff_false, and_true, true_and, and_false, false_and, reduceIte, ite_true, ite_false, eq_self] at *)) <;> omega) (fun s16 hs16 => ?_)
                      have Fs16 : Fm [126, 127, 129] [129] σ s16 := by rw [hs16]; exact Fm.si Fs15 rfl
                      refine wa_aload_n (i := 0) rfl rfl ?_
                      refine wa_dup rfl ?_
                      refine wa_geti ck_12 fl_12_957 ly_84 ?_
                      refine wa_rw ((nxq_gi_si hs16 (by decide)).trans ((nxq_gi_si hs15 (by decide)).trans (khi12_1))) ?_
                      refine wa_iconst (v := 1) (by decide) ?_
                      refine wa_iadd ?_
                      refine wa_top (fun v17 hv17 => ?_)
                      have tv17 := i_addT hv17
                      clear hv17
                      refine wa_puti ck_12 fl_12_957 ly_84 (fun s18 hs18 => ?_)
                      have Fs18 : Fm [126, 127, 129] [129] σ s18 := by rw [hs18]; exact Fm.si Fs16 rfl
                      have Pq := cha_add hs15 hs16 hs18 Ps10_CHA Ps10_HDS (by ((try simp only [vp_in_iff, Int32.lt_iff_toInt_lt, Int32.le_iff_toInt_le, ← Int32.toInt_inj, Int32.reduceToInt, n_1, n_2, n_8, Int32.toNatClampNeg, Int64.lt_iff_toInt_lt, Int64.le_iff_toInt_le, ← Int64.toInt_inj, Int64.reduceToInt, Int32.toInt_toInt64, lg_cmp_ge, lg_cmp_le, lg_cmp_gt, lg_cmp_lt, lg_cmp_eq, Bool.false_eq_true, Bool.true_eq_false, reduceCtorEq, false_iff, true_iff, iff_true, iff_false, and_true, true_and, and_false, false_and, reduceIte, ite_true, ite_false, eq_self] at *)) <;> omega) (Eq.symm (by assumption)) (by ((try simp only [vp_in_iff, Int32.lt_iff_toInt_lt, Int32.le_iff_toInt_le, ← Int32.toInt_inj, Int32.reduceToInt, n_1, n_2, n_8, Int32.toNatClampNeg, Int64.lt_iff_toInt_lt, Int64.le_iff_toInt_le, ← Int64.toInt_inj, Int64.reduceToInt, Int32.toInt_toInt64, lg_cmp_ge, lg_cmp_le, lg_cmp_gt, lg_cmp_lt, lg_cmp_eq, Bool.false_eq_true, Bool.true_eq_false, reduceCtorEq, false_iff, true_iff, iff_true, iff_false, and_true, true_and, and_false, false_and, reduceIte, ite_true, ite_false, eq_self] at *)) <;> omega) ((khi12_1)).symm (by ((try simp only [vp_in_iff, Int32.lt_iff_toInt_lt, Int32.le_iff_toInt_le, ← Int32.toInt_inj, Int32.reduceToInt, n_1, n_2, n_8, Int32.toNatClampNeg, Int64.lt_iff_toInt_lt, Int64.le_iff_toInt_le, ← Int64.toInt_inj, Int64.reduceToInt, Int32.toInt_toInt64, lg_cmp_ge, lg_cmp_le, lg_cmp_gt, lg_cmp_lt, lg_cmp_eq, Bool.false_eq_true, Bool.true_eq_false, reduceCtorEq, false_iff, true_iff, iff_true, iff_false, and_true, true_and, and_false, false_and, reduceIte, ite_true, ite_false, eq_self] at *)) <;> omega)
                      have Ps18_CHA := Pq.1
                      have Ps18_HDS := Pq.2
                      have Ps18_DV := dv_add hs15 hs16 hs18 Ps10_DV (DI_of (fun k => Fm.gi Fs10 (q := 125) (k := k) rfl rfl) (fun k => Fm.gi Fs10 (q := 135) (k := k) rfl rfl) (Fm.gi Fs10 (q := 84) (k := 119) rfl rfl) P_DI) (by ((try simp only [vp_in_iff, Int32.lt_iff_toInt_lt, Int32.le_iff_toInt_le, ← Int32.toInt_inj, Int32.reduceToInt, n_1, n_2, n_8, Int32.toNatClampNeg, Int64.lt_iff_toInt_lt, Int64.le_iff_toInt_le, ← Int64.toInt_inj, Int64.reduceToInt, Int32.toInt_toInt64, lg_cmp_ge, lg_cmp_le, lg_cmp_gt, lg_cmp_lt, lg_cmp_eq, Bool.false_eq_true, Bool.true_eq_false, reduceCtorEq, false_iff, true_iff, iff_true, iff_false, and_true, true_and, and_false, false_and, reduceIte, ite_true, ite_false, eq_self] at *)) <;> omega) (by ((try simp only [vp_in_iff, Int32.lt_iff_toInt_lt, Int32.le_iff_toInt_le, ← Int32.toInt_inj, Int32.reduceToInt, n_1, n_2, n_8, Int32.toNatClampNeg, Int64.lt_iff_toInt_lt, Int64.le_iff_toInt_le, ← Int64.toInt_inj, Int64.reduceToInt, Int32.toInt_toInt64, lg_cmp_ge, lg_cmp_le, lg_cmp_gt, lg_cmp_lt, lg_cmp_eq, Bool.false_eq_true, Bool.true_eq_false, reduceCtorEq, false_iff, true_iff, iff_true, iff_false, and_true, true_and, and_false, false_and, reduceIte, ite_true, ite_false, eq_self] at *)) <;> omega) (by intro k hk; refine ‹∀ k : Nat, _ → gi _ 129 _ = gi _ 125 k› k ?_; ((try simp only [vp_in_iff, Int32.lt_iff_toInt_lt, Int32.le_iff_toInt_le, ← Int32.toInt_inj, Int32.reduceToInt, n_1, n_2, n_8, Int32.toNatClampNeg, Int64.lt_iff_toInt_lt, Int64.le_iff_toInt_le, ← Int64.toInt_inj, Int64.reduceToInt, Int32.toInt_toInt64, lg_cmp_ge, lg_cmp_le, lg_cmp_gt, lg_cmp_lt, lg_cmp_eq, Bool.false_eq_true, Bool.true_eq_false, reduceCtorEq, false_iff, true_iff, iff_true, iff_false, and_true, true_and, and_false, false_and, reduceIte, ite_true, ite_false, eq_self] at *)) <;> omega)
                      refine wa_aload_n (i := 0) rfl rfl ?_
                      refine wa_geti ck_12 fl_12_957 ly_84 ?_
                      refine wa_rw (nxe_gi_si hs18) ?_
                      refine wa_iconst (v := 1) (by decide) ?_
                      refine wa_isub ?_
                      refine wa_top (fun v19 hv19 => ?_)
                      have tv19 := i_subT hv19
                      clear hv19
                      refine wa_ireturn rfl rfl ?_
                      exact ⟨_, rfl, Fs18, (by ((try simp only [vp_in_iff, Int32.lt_iff_toInt_lt, Int32.le_iff_toInt_le, ← Int32.toInt_inj, Int32.reduceToInt, n_1, n_2, n_8, Int32.toNatClampNeg, Int64.lt_iff_toInt_lt, Int64.le_iff_toInt_le, ← Int64.toInt_inj, Int64.reduceToInt, Int32.toInt_toInt64, lg_cmp_ge, lg_cmp_le, lg_cmp_gt, lg_cmp_lt, lg_cmp_eq, Bool.false_eq_true, Bool.true_eq_false, reduceCtorEq, false_iff, true_iff, iff_true, iff_false, and_true, true_and, and_false, false_and, reduceIte, ite_true, ite_false, eq_self] at *)) <;> omega), (by rw [nxe_gi_si hs18]; first | assumption | (((try simp only [vp_in_iff, Int32.lt_iff_toInt_lt, Int32.le_iff_toInt_le, ← Int32.toInt_inj, Int32.reduceToInt, n_1, n_2, n_8, Int32.toNatClampNeg, Int64.lt_iff_toInt_lt, Int64.le_iff_toInt_le, ← Int64.toInt_inj, Int64.reduceToInt, Int32.toInt_toInt64, lg_cmp_ge, lg_cmp_le, lg_cmp_gt, lg_cmp_lt, lg_cmp_eq, Bool.false_eq_true, Bool.true_eq_false, reduceCtorEq, false_iff, true_iff, iff_true, iff_false, and_true, true_and, and_false, false_and, reduceIte, ite_true, ite_false, eq_self] at *)) <;> omega)), (by rw [nxe_gi_si hs18]; first | assumption | (((try simp only [vp_in_iff, Int32.lt_iff_toInt_lt, Int32.le_iff_toInt_le, ← Int32.toInt_inj, Int32.reduceToInt, n_1, n_2, n_8, Int32.toNatClampNeg, Int64.lt_iff_toInt_lt, Int64.le_iff_toInt_le, ← Int64.toInt_inj, Int64.reduceToInt, Int32.toInt_toInt64, lg_cmp_ge, lg_cmp_le, lg_cmp_gt, lg_cmp_lt, lg_cmp_eq, Bool.false_eq_true, Bool.true_eq_false, reduceCtorEq, false_iff, true_iff, iff_true, iff_false, and_true, true_and, and_false, false_and, reduceIte, ite_true, ite_false, eq_self] at *)) <;> omega)), (by rw [nxe_gi_si hs18]; first | assumption | (((try simp only [vp_in_iff, Int32.lt_iff_toInt_lt, Int32.le_iff_toInt_le, ← Int32.toInt_inj, Int32.reduceToInt, n_1, n_2, n_8, Int32.toNatClampNeg, Int64.lt_iff_toInt_lt, Int64.le_iff_toInt_le, ← Int64.toInt_inj, Int64.reduceToInt, Int32.toInt_toInt64, lg_cmp_ge, lg_cmp_le, lg_cmp_gt, lg_cmp_lt, lg_cmp_eq, Bool.false_eq_true, Bool.true_eq_false, reduceCtorEq, false_iff, true_iff, iff_true, iff_false, and_true, true_and, and_false, false_and, reduceIte, ite_true, ite_false, eq_self] at *)) <;> omega)), Ps18_CHA, Ps18_HDS, Ps18_DV, trivial⟩
                    · have mh13 := nle_mx h13
                      refine wa_aload_n (i := 0) rfl rfl ?_
                      refine wa_getr ck_12 fl_12_317 ly_84 rf_84_125 ?_
                      refine wa_bipush (v := 32) (by decide) ?_
                      refine wa_aload_n (i := 0) rfl rfl ?_
                      refine wa_geti ck_12 fl_12_957 ly_84 ?_
                      refine wa_rw (khi12_1) ?_
                      refine wa_imul ?_
                      refine wa_top (fun v20 hv20 => ?_)
                      have tv20 := i_mulT hv20
                      clear hv20
                      refine wa_iload_n (i := 2) rfl rfl ?_
                      refine wa_iadd ?_
                      refine wa_top (fun v21 hv21 => ?_)
                      have tv21 := i_addT hv21
                      clear hv21
                      refine wa_aload_n (i := 0) rfl rfl ?_
                      refine wa_getr ck_12 fl_12_331 ly_84 rf_84_130 ?_
                      refine wa_iload_n (i := 2) rfl rfl ?_
                      refine wa_iald ly_125 (by ((try simp only [vp_in_iff, Int32.lt_iff_toInt_lt, Int32.le_iff_toInt_le, ← Int32.toInt_inj, Int32.reduceToInt, n_1, n_2, n_8, Int32.toNatClampNeg, Int64.lt_iff_toInt_lt, Int64.le_iff_toInt_le, ← Int64.toInt_inj, Int64.reduceToInt, Int32.toInt_toInt64, lg_cmp_ge, lg_cmp_le, lg_cmp_gt, lg_cmp_lt, lg_cmp_eq, Bool.false_eq_true, Bool.true_eq_false, reduceCtorEq, false_iff, true_iff, iff_true, iff_false, and_true, true_and, and_false, false_and, reduceIte, ite_true, ite_false, eq_self] at *)) <;> omega) ?_
                      refine wa_iast ly_129 (by ((try simp only [vp_in_iff, Int32.lt_iff_toInt_lt, Int32.le_iff_toInt_le, ← Int32.toInt_inj, Int32.reduceToInt, n_1, n_2, n_8, Int32.toNatClampNeg, Int64.lt_iff_toInt_lt, Int64.le_iff_toInt_le, ← Int64.toInt_inj, Int64.reduceToInt, Int32.toInt_toInt64, lg_cmp_ge, lg_cmp_le, lg_cmp_gt, lg_cmp_lt, lg_cmp_eq, Bool.false_eq_true, Bool.true_eq_false, reduceCtorEq, false_iff, true_iff, iff_true, iff_false, and_true, true_and, and_false, false_and, reduceIte, ite_true, ite_false, eq_self] at *)) <;> omega) (fun s22 hs22 => ?_)
                      have Fs22 : Fm [126, 127, 129] [129] σ s22 := by rw [hs22]; exact Fm.si Fs10 rfl
                      have Ps22_DV := dv_w hs22 Ps10_DV (by ((try simp only [vp_in_iff, Int32.lt_iff_toInt_lt, Int32.le_iff_toInt_le, ← Int32.toInt_inj, Int32.reduceToInt, n_1, n_2, n_8, Int32.toNatClampNeg, Int64.lt_iff_toInt_lt, Int64.le_iff_toInt_le, ← Int64.toInt_inj, Int64.reduceToInt, Int32.toInt_toInt64, lg_cmp_ge, lg_cmp_le, lg_cmp_gt, lg_cmp_lt, lg_cmp_eq, Bool.false_eq_true, Bool.true_eq_false, reduceCtorEq, false_iff, true_iff, iff_true, iff_false, and_true, true_and, and_false, false_and, reduceIte, ite_true, ite_false, eq_self] at *)) <;> omega)
                      refine wa_iinc (v := (1)) (lv' := fun y23 => [(2, .int y23), (0, .ref 84), (1, .int v4)]) (by decide) rfl (by decide) (fun _ => rfl) (fun y23 hy23 => ?_)
                      have ty23 := i_addT hy23.symm
                      clear hy23
                      refine wa_goto o_X12_placeOf_141 (by decide) ?_
                      refine wa_pick [1, 2, 0] rfl ?_
                      exact ih11 _ (by ((try simp only [vp_in_iff, Int32.lt_iff_toInt_lt, Int32.le_iff_toInt_le, ← Int32.toInt_inj, Int32.reduceToInt, n_1, n_2, n_8, Int32.toNatClampNeg, Int64.lt_iff_toInt_lt, Int64.le_iff_toInt_le, ← Int64.toInt_inj, Int64.reduceToInt, Int32.toInt_toInt64, lg_cmp_ge, lg_cmp_le, lg_cmp_gt, lg_cmp_lt, lg_cmp_eq, Bool.false_eq_true, Bool.true_eq_false, reduceCtorEq, false_iff, true_iff, iff_true, iff_false, and_true, true_and, and_false, false_and, reduceIte, ite_true, ite_false, eq_self] at *)) <;> omega) _ _ ⟨Fs22, ((nxq_gi_si hs22 (by decide)).trans (khi12_0)), ((nxq_gi_si hs22 (by decide)).trans (khi12_1)), (CHA_of (fun k => nxq_gi_si hs22 (by decide)) (nxq_gi_si hs22 (by decide)) Ps10_CHA), (HDS_of (fun k => nxq_gi_si hs22 (by decide)) (nxq_gi_si hs22 (by decide)) Ps10_HDS), Ps22_DV, (by ((try simp only [vp_in_iff, Int32.lt_iff_toInt_lt, Int32.le_iff_toInt_le, ← Int32.toInt_inj, Int32.reduceToInt, n_1, n_2, n_8, Int32.toNatClampNeg, Int64.lt_iff_toInt_lt, Int64.le_iff_toInt_le, ← Int64.toInt_inj, Int64.reduceToInt, Int32.toInt_toInt64, lg_cmp_ge, lg_cmp_le, lg_cmp_gt, lg_cmp_lt, lg_cmp_eq, Bool.false_eq_true, Bool.true_eq_false, reduceCtorEq, false_iff, true_iff, iff_true, iff_false, and_true, true_and, and_false, false_and, reduceIte, ite_true, ite_false, eq_self] at *)) <;> omega), (by first | exact row_w hs22 (by ((try simp only [vp_in_iff, Int32.lt_iff_toInt_lt, Int32.le_iff_toInt_le, ← Int32.toInt_inj, Int32.reduceToInt, n_1, n_2, n_8, Int32.toNatClampNeg, Int64.lt_iff_toInt_lt, Int64.le_iff_toInt_le, ← Int64.toInt_inj, Int64.reduceToInt, Int32.toInt_toInt64, lg_cmp_ge, lg_cmp_le, lg_cmp_gt, lg_cmp_lt, lg_cmp_eq, Bool.false_eq_true, Bool.true_eq_false, reduceCtorEq, false_iff, true_iff, iff_true, iff_false, and_true, true_and, and_false, false_and, reduceIte, ite_true, ite_false, eq_self] at *)) <;> omega) (by ((try simp only [vp_in_iff, Int32.lt_iff_toInt_lt, Int32.le_iff_toInt_le, ← Int32.toInt_inj, Int32.reduceToInt, n_1, n_2, n_8, Int32.toNatClampNeg, Int64.lt_iff_toInt_lt, Int64.le_iff_toInt_le, ← Int64.toInt_inj, Int64.reduceToInt, Int32.toInt_toInt64, lg_cmp_ge, lg_cmp_le, lg_cmp_gt, lg_cmp_lt, lg_cmp_eq, Bool.false_eq_true, Bool.true_eq_false, reduceCtorEq, false_iff, true_iff, iff_true, iff_false, and_true, true_and, and_false, false_and, reduceIte, ite_true, ite_false, eq_self] at *)) <;> omega) (by ((try simp only [vp_in_iff, Int32.lt_iff_toInt_lt, Int32.le_iff_toInt_le, ← Int32.toInt_inj, Int32.reduceToInt, n_1, n_2, n_8, Int32.toNatClampNeg, Int64.lt_iff_toInt_lt, Int64.le_iff_toInt_le, ← Int64.toInt_inj, Int64.reduceToInt, Int32.toInt_toInt64, lg_cmp_ge, lg_cmp_le, lg_cmp_gt, lg_cmp_lt, lg_cmp_eq, Bool.false_eq_true, Bool.true_eq_false, reduceCtorEq, false_iff, true_iff, iff_true, iff_false, and_true, true_and, and_false, false_and, reduceIte, ite_true, ite_false, eq_self] at *)) <;> omega) (by ((try simp only [vp_in_iff, Int32.lt_iff_toInt_lt, Int32.le_iff_toInt_le, ← Int32.toInt_inj, Int32.reduceToInt, n_1, n_2, n_8, Int32.toNatClampNeg, Int64.lt_iff_toInt_lt, Int64.le_iff_toInt_le, ← Int64.toInt_inj, Int64.reduceToInt, Int32.toInt_toInt64, lg_cmp_ge, lg_cmp_le, lg_cmp_gt, lg_cmp_lt, lg_cmp_eq, Bool.false_eq_true, Bool.true_eq_false, reduceCtorEq, false_iff, true_iff, iff_true, iff_false, and_true, true_and, and_false, false_and, reduceIte, ite_true, ite_false, eq_self] at *)) <;> omega) rfl (by assumption) | (intro k hk; simp only [Int32.reduceToInt] at hk; omega)), trivial⟩ rfl
                exact hi12 _ _ _ ⟨(Fm.rf [126, 127, 129] [129] σ), (rfl), (rfl), P_CHA, P_HDS, P_DV, (by ((try simp only [vp_in_iff, Int32.lt_iff_toInt_lt, Int32.le_iff_toInt_le, ← Int32.toInt_inj, Int32.reduceToInt, n_1, n_2, n_8, Int32.toNatClampNeg, Int64.lt_iff_toInt_lt, Int64.le_iff_toInt_le, ← Int64.toInt_inj, Int64.reduceToInt, Int32.toInt_toInt64, lg_cmp_ge, lg_cmp_le, lg_cmp_gt, lg_cmp_lt, lg_cmp_eq, Bool.false_eq_true, Bool.true_eq_false, reduceCtorEq, false_iff, true_iff, iff_true, iff_false, and_true, true_and, and_false, false_and, reduceIte, ite_true, ite_false, eq_self] at *)) <;> omega), (by first | exact row_w hσ (by ((try simp only [vp_in_iff, Int32.lt_iff_toInt_lt, Int32.le_iff_toInt_le, ← Int32.toInt_inj, Int32.reduceToInt, n_1, n_2, n_8, Int32.toNatClampNeg, Int64.lt_iff_toInt_lt, Int64.le_iff_toInt_le, ← Int64.toInt_inj, Int64.reduceToInt, Int32.toInt_toInt64, lg_cmp_ge, lg_cmp_le, lg_cmp_gt, lg_cmp_lt, lg_cmp_eq, Bool.false_eq_true, Bool.true_eq_false, reduceCtorEq, false_iff, true_iff, iff_true, iff_false, and_true, true_and, and_false, false_and, reduceIte, ite_true, ite_false, eq_self] at *)) <;> omega) (by ((try simp only [vp_in_iff, Int32.lt_iff_toInt_lt, Int32.le_iff_toInt_le, ← Int32.toInt_inj, Int32.reduceToInt, n_1, n_2, n_8, Int32.toNatClampNeg, Int64.lt_iff_toInt_lt, Int64.le_iff_toInt_le, ← Int64.toInt_inj, Int64.reduceToInt, Int32.toInt_toInt64, lg_cmp_ge, lg_cmp_le, lg_cmp_gt, lg_cmp_lt, lg_cmp_eq, Bool.false_eq_true, Bool.true_eq_false, reduceCtorEq, false_iff, true_iff, iff_true, iff_false, and_true, true_and, and_false, false_and, reduceIte, ite_true, ite_false, eq_self] at *)) <;> omega) (by ((try simp only [vp_in_iff, Int32.lt_iff_toInt_lt, Int32.le_iff_toInt_le, ← Int32.toInt_inj, Int32.reduceToInt, n_1, n_2, n_8, Int32.toNatClampNeg, Int64.lt_iff_toInt_lt, Int64.le_iff_toInt_le, ← Int64.toInt_inj, Int64.reduceToInt, Int32.toInt_toInt64, lg_cmp_ge, lg_cmp_le, lg_cmp_gt, lg_cmp_lt, lg_cmp_eq, Bool.false_eq_true, Bool.true_eq_false, reduceCtorEq, false_iff, true_iff, iff_true, iff_false, and_true, true_and, and_false, false_and, reduceIte, ite_true, ite_false, eq_self] at *)) <;> omega) (by ((try simp only [vp_in_iff, Int32.lt_iff_toInt_lt, Int32.le_iff_toInt_le, ← Int32.toInt_inj, Int32.reduceToInt, n_1, n_2, n_8, Int32.toNatClampNeg, Int64.lt_iff_toInt_lt, Int64.le_iff_toInt_le, ← Int64.toInt_inj, Int64.reduceToInt, Int32.toInt_toInt64, lg_cmp_ge, lg_cmp_le, lg_cmp_gt, lg_cmp_lt, lg_cmp_eq, Bool.false_eq_true, Bool.true_eq_false, reduceCtorEq, false_iff, true_iff, iff_true, iff_false, and_true, true_and, and_false, false_and, reduceIte, ite_true, ite_false, eq_self] at *)) <;> omega) rfl (by assumption) | (intro k hk; simp only [Int32.reduceToInt] at hk; omega)), trivial⟩ rfl
              · refine wa_sipush (v := 3000) (by decide) ?_
                refine wa_ireturn rfl rfl ?_
                exact ⟨_, rfl, (Fm.rf [126, 127, 129] [129] σ), (by ((try simp only [vp_in_iff, Int32.lt_iff_toInt_lt, Int32.le_iff_toInt_le, ← Int32.toInt_inj, Int32.reduceToInt, n_1, n_2, n_8, Int32.toNatClampNeg, Int64.lt_iff_toInt_lt, Int64.le_iff_toInt_le, ← Int64.toInt_inj, Int64.reduceToInt, Int32.toInt_toInt64, lg_cmp_ge, lg_cmp_le, lg_cmp_gt, lg_cmp_lt, lg_cmp_eq, Bool.false_eq_true, Bool.true_eq_false, reduceCtorEq, false_iff, true_iff, iff_true, iff_false, and_true, true_and, and_false, false_and, reduceIte, ite_true, ite_false, eq_self] at *)) <;> omega), (by first | assumption | (((try simp only [vp_in_iff, Int32.lt_iff_toInt_lt, Int32.le_iff_toInt_le, ← Int32.toInt_inj, Int32.reduceToInt, n_1, n_2, n_8, Int32.toNatClampNeg, Int64.lt_iff_toInt_lt, Int64.le_iff_toInt_le, ← Int64.toInt_inj, Int64.reduceToInt, Int32.toInt_toInt64, lg_cmp_ge, lg_cmp_le, lg_cmp_gt, lg_cmp_lt, lg_cmp_eq, Bool.false_eq_true, Bool.true_eq_false, reduceCtorEq, false_iff, true_iff, iff_true, iff_false, and_true, true_and, and_false, false_and, reduceIte, ite_true, ite_false, eq_self] at *)) <;> omega)), (by first | assumption | (((try simp only [vp_in_iff, Int32.lt_iff_toInt_lt, Int32.le_iff_toInt_le, ← Int32.toInt_inj, Int32.reduceToInt, n_1, n_2, n_8, Int32.toNatClampNeg, Int64.lt_iff_toInt_lt, Int64.le_iff_toInt_le, ← Int64.toInt_inj, Int64.reduceToInt, Int32.toInt_toInt64, lg_cmp_ge, lg_cmp_le, lg_cmp_gt, lg_cmp_lt, lg_cmp_eq, Bool.false_eq_true, Bool.true_eq_false, reduceCtorEq, false_iff, true_iff, iff_true, iff_false, and_true, true_and, and_false, false_and, reduceIte, ite_true, ite_false, eq_self] at *)) <;> omega)), (by first | assumption | (((try simp only [vp_in_iff, Int32.lt_iff_toInt_lt, Int32.le_iff_toInt_le, ← Int32.toInt_inj, Int32.reduceToInt, n_1, n_2, n_8, Int32.toNatClampNeg, Int64.lt_iff_toInt_lt, Int64.le_iff_toInt_le, ← Int64.toInt_inj, Int64.reduceToInt, Int32.toInt_toInt64, lg_cmp_ge, lg_cmp_le, lg_cmp_gt, lg_cmp_lt, lg_cmp_eq, Bool.false_eq_true, Bool.true_eq_false, reduceCtorEq, false_iff, true_iff, iff_true, iff_false, and_true, true_and, and_false, false_and, reduceIte, ite_true, ite_false, eq_self] at *)) <;> omega)), P_CHA, P_HDS, P_DV, trivial⟩
            · refine wa_iconst (v := 1) (by decide) ?_
              refine wa_istore_nD (lv' := [(3, .int (bI true)), (0, .ref 84), (1, .int v4), (2, .int l2)]) (i := 3) rfl (by decide) rfl ?_
              refine wa_iconst (v := 0) (by decide) ?_
              refine wa_istoreD (lv' := [(4, .int 0), (3, .int (bI true)), (0, .ref 84), (1, .int v4), (2, .int l2)]) (by decide) rfl ?_
              refine wa_pick [2, 3, 4, 1, 0] rfl ?_
              have hi25 : ∀ (n9_62 : Nat) (l3 : Bool) (l4 : Int32), ((0 ≤ l4.toInt) ∧ (True)) → (2147483647 - l4.toInt).toNat = n9_62 → WA G M_X12_placeOf (ZM G M_X12_placeOf d (fun r σ' => ∃ x : Int32, r = some (.int x) ∧ Fm [126, 127, 129] [129] σ σ' ∧ (0 ≤ x.toInt ∧ x.toInt ≤ 3000) ∧ ((gi σ 84 129).toInt ≤ (gi σ' 84 129).toInt) ∧ (x.toInt < (gi σ' 84 129).toInt ∨ (x.toInt = 3000 ∧ 3000 ≤ (gi σ' 84 129).toInt)) ∧ (0 ≤ (gi σ' 84 129).toInt ∧ (gi σ' 84 129).toInt ≤ 3000) ∧ CHA σ' ∧ HDS σ' ∧ DV σ' ∧ True)) B_X12_placeOf_62 [(0, .ref 84), (1, .int v4), (2, .int l2), (3, .int (bI l3)), (4, .int l4)] [] σ := by
                intro n9_62
                induction n9_62 using Nat.strongRecOn with
                | _ n9_62 ih24 =>
                  intro l3 l4  i9 m9_62
                  obtain ⟨jhi25_0, -⟩ := i9
                  have ul4 := Int32.toInt_lt l4
                  have wl4 := Int32.le_toInt l4
                  refine wa_iload rfl ?_
                  refine wa_aload_n (i := 0) rfl rfl ?_
                  refine wa_geti ck_12 fl_12_928 ly_84 ?_
                  refine wa_icmp_ge o_X12_placeOf_109 (by decide) (fun h26 => ?_) (fun h26 => ?_)
                  · refine wa_iload_n (i := 3) rfl rfl ?_
                    refine wa_if_eq o_X12_placeOf_115 (by decide) (fun h27 => ?_) (fun h27 => ?_)
                    · replace h27 := bI_f (b := l3) (rfl) h27
                      refine wa_aload_n (i := 0) rfl rfl ?_
                      refine wa_getr ck_12 fl_12_328 ly_84 rf_84_128 ?_
                      refine wa_iload_n (i := 2) rfl rfl ?_
                      refine wa_iald ly_126 (by ((try simp only [vp_in_iff, Int32.lt_iff_toInt_lt, Int32.le_iff_toInt_le, ← Int32.toInt_inj, Int32.reduceToInt, n_1, n_2, n_8, Int32.toNatClampNeg, Int64.lt_iff_toInt_lt, Int64.le_iff_toInt_le, ← Int64.toInt_inj, Int64.reduceToInt, Int32.toInt_toInt64, lg_cmp_ge, lg_cmp_le, lg_cmp_gt, lg_cmp_lt, lg_cmp_eq, Bool.false_eq_true, Bool.true_eq_false, reduceCtorEq, false_iff, true_iff, iff_true, iff_false, and_true, true_and, and_false, false_and, reduceIte, ite_true, ite_false, eq_self] at *)) <;> omega) ?_
                      refine wa_top (fun v28 hv28 => ?_)
                      have rv28 := cha_at P_CHA hv28 (by ((try simp only [vp_in_iff, Int32.lt_iff_toInt_lt, Int32.le_iff_toInt_le, ← Int32.toInt_inj, Int32.reduceToInt, n_1, n_2, n_8, Int32.toNatClampNeg, Int64.lt_iff_toInt_lt, Int64.le_iff_toInt_le, ← Int64.toInt_inj, Int64.reduceToInt, Int32.toInt_toInt64, lg_cmp_ge, lg_cmp_le, lg_cmp_gt, lg_cmp_lt, lg_cmp_eq, Bool.false_eq_true, Bool.true_eq_false, reduceCtorEq, false_iff, true_iff, iff_true, iff_false, and_true, true_and, and_false, false_and, reduceIte, ite_true, ite_false, eq_self] at *)) <;> omega)
                      clear hv28
                      refine wa_istore_nD (lv' := [(2, .int v28), (0, .ref 84), (1, .int v4), (3, .int (bI l3)), (4, .int l4)]) (i := 2) rfl (by decide) rfl ?_
                      refine wa_goto o_X12_placeOf_52 (by decide) ?_
                      refine wa_pick [1, 2, 0] rfl ?_
                      exact ih6 _ (by ((try simp only [vp_in_iff, Int32.lt_iff_toInt_lt, Int32.le_iff_toInt_le, ← Int32.toInt_inj, Int32.reduceToInt, n_1, n_2, n_8, Int32.toNatClampNeg, Int64.lt_iff_toInt_lt, Int64.le_iff_toInt_le, ← Int64.toInt_inj, Int64.reduceToInt, Int32.toInt_toInt64, lg_cmp_ge, lg_cmp_le, lg_cmp_gt, lg_cmp_lt, lg_cmp_eq, Bool.false_eq_true, Bool.true_eq_false, reduceCtorEq, false_iff, true_iff, iff_true, iff_false, and_true, true_and, and_false, false_and, reduceIte, ite_true, ite_false, eq_self] at *)) <;> omega) _ ⟨(by ((try simp only [vp_in_iff, Int32.lt_iff_toInt_lt, Int32.le_iff_toInt_le, ← Int32.toInt_inj, Int32.reduceToInt, n_1, n_2, n_8, Int32.toNatClampNeg, Int64.lt_iff_toInt_lt, Int64.le_iff_toInt_le, ← Int64.toInt_inj, Int64.reduceToInt, Int32.toInt_toInt64, lg_cmp_ge, lg_cmp_le, lg_cmp_gt, lg_cmp_lt, lg_cmp_eq, Bool.false_eq_true, Bool.true_eq_false, reduceCtorEq, false_iff, true_iff, iff_true, iff_false, and_true, true_and, and_false, false_and, reduceIte, ite_true, ite_false, eq_self] at *)) <;> omega), (by first | assumption | (((try simp only [vp_in_iff, Int32.lt_iff_toInt_lt, Int32.le_iff_toInt_le, ← Int32.toInt_inj, Int32.reduceToInt, n_1, n_2, n_8, Int32.toNatClampNeg, Int64.lt_iff_toInt_lt, Int64.le_iff_toInt_le, ← Int64.toInt_inj, Int64.reduceToInt, Int32.toInt_toInt64, lg_cmp_ge, lg_cmp_le, lg_cmp_gt, lg_cmp_lt, lg_cmp_eq, Bool.false_eq_true, Bool.true_eq_false, reduceCtorEq, false_iff, true_iff, iff_true, iff_false, and_true, true_and, and_false, false_and, reduceIte, ite_true, ite_false, eq_self] at *)) <;> omega)), trivial⟩ rfl
                    · replace h27 := bI_t (b := l3) (rfl) h27
                      refine wa_iload_n (i := 2) rfl rfl ?_
                      refine wa_ireturn rfl rfl ?_
                      exact ⟨_, rfl, (Fm.rf [126, 127, 129] [129] σ), (by ((try simp only [vp_in_iff, Int32.lt_iff_toInt_lt, Int32.le_iff_toInt_le, ← Int32.toInt_inj, Int32.reduceToInt, n_1, n_2, n_8, Int32.toNatClampNeg, Int64.lt_iff_toInt_lt, Int64.le_iff_toInt_le, ← Int64.toInt_inj, Int64.reduceToInt, Int32.toInt_toInt64, lg_cmp_ge, lg_cmp_le, lg_cmp_gt, lg_cmp_lt, lg_cmp_eq, Bool.false_eq_true, Bool.true_eq_false, reduceCtorEq, false_iff, true_iff, iff_true, iff_false, and_true, true_and, and_false, false_and, reduceIte, ite_true, ite_false, eq_self] at *)) <;> omega), (by first | assumption | (((try simp only [vp_in_iff, Int32.lt_iff_toInt_lt, Int32.le_iff_toInt_le, ← Int32.toInt_inj, Int32.reduceToInt, n_1, n_2, n_8, Int32.toNatClampNeg, Int64.lt_iff_toInt_lt, Int64.le_iff_toInt_le, ← Int64.toInt_inj, Int64.reduceToInt, Int32.toInt_toInt64, lg_cmp_ge, lg_cmp_le, lg_cmp_gt, lg_cmp_lt, lg_cmp_eq, Bool.false_eq_true, Bool.true_eq_false, reduceCtorEq, false_iff, true_iff, iff_true, iff_false, and_true, true_and, and_false, false_and, reduceIte, ite_true, ite_false, eq_self] at *)) <;> omega)), (by first | assumption | (((try simp only [vp_in_iff, Int32.lt_iff_toInt_lt, Int32.le_iff_toInt_le, ← Int32.toInt_inj, Int32.reduceToInt, n_1, n_2, n_8, Int32.toNatClampNeg, Int64.lt_iff_toInt_lt, Int64.le_iff_toInt_le, ← Int64.toInt_inj, Int64.reduceToInt, Int32.toInt_toInt64, lg_cmp_ge, lg_cmp_le, lg_cmp_gt, lg_cmp_lt, lg_cmp_eq, Bool.false_eq_true, Bool.true_eq_false, reduceCtorEq, false_iff, true_iff, iff_true, iff_false, and_true, true_and, and_false, false_and, reduceIte, ite_true, ite_false, eq_self] at *)) <;> omega)), (by first | assumption | (((try simp only [vp_in_iff, Int32.lt_iff_toInt_lt, Int32.le_iff_toInt_le, ← Int32.toInt_inj, Int32.reduceToInt, n_1, n_2, n_8, Int32.toNatClampNeg, Int64.lt_iff_toInt_lt, Int64.le_iff_toInt_le, ← Int64.toInt_inj, Int64.reduceToInt, Int32.toInt_toInt64, lg_cmp_ge, lg_cmp_le, lg_cmp_gt, lg_cmp_lt, lg_cmp_eq, Bool.false_eq_true, Bool.true_eq_false, reduceCtorEq, false_iff, true_iff, iff_true, iff_false, and_true, true_and, and_false, false_and, reduceIte, ite_true, ite_false, eq_self] at *)) <;> omega)), P_CHA, P_HDS, P_DV, trivial⟩
                  · have mh26 := nle_mx h26
                    refine wa_iload_n (i := 3) rfl rfl ?_
                    refine wa_if_eq o_X12_placeOf_109 (by decide) (fun h29 => ?_) (fun h29 => ?_)
                    · replace h29 := bI_f (b := l3) (rfl) h29
                      refine wa_iload_n (i := 3) rfl rfl ?_
                      refine wa_if_eq o_X12_placeOf_115 (by decide) (fun h30 => ?_) (fun h30 => ?_)
                      · replace h30 := bI_f (b := l3) (rfl) h30
                        refine wa_aload_n (i := 0) rfl rfl ?_
                        refine wa_getr ck_12 fl_12_328 ly_84 rf_84_128 ?_
                        refine wa_iload_n (i := 2) rfl rfl ?_
                        refine wa_iald ly_126 (by ((try simp only [vp_in_iff, Int32.lt_iff_toInt_lt, Int32.le_iff_toInt_le, ← Int32.toInt_inj, Int32.reduceToInt, n_1, n_2, n_8, Int32.toNatClampNeg, Int64.lt_iff_toInt_lt, Int64.le_iff_toInt_le, ← Int64.toInt_inj, Int64.reduceToInt, Int32.toInt_toInt64, lg_cmp_ge, lg_cmp_le, lg_cmp_gt, lg_cmp_lt, lg_cmp_eq, Bool.false_eq_true, Bool.true_eq_false, reduceCtorEq, false_iff, true_iff, iff_true, iff_false, and_true, true_and, and_false, false_and, reduceIte, ite_true, ite_false, eq_self] at *)) <;> omega) ?_
                        refine wa_top (fun v31 hv31 => ?_)
                        have rv31 := cha_at P_CHA hv31 (by ((try simp only [vp_in_iff, Int32.lt_iff_toInt_lt, Int32.le_iff_toInt_le, ← Int32.toInt_inj, Int32.reduceToInt, n_1, n_2, n_8, Int32.toNatClampNeg, Int64.lt_iff_toInt_lt, Int64.le_iff_toInt_le, ← Int64.toInt_inj, Int64.reduceToInt, Int32.toInt_toInt64, lg_cmp_ge, lg_cmp_le, lg_cmp_gt, lg_cmp_lt, lg_cmp_eq, Bool.false_eq_true, Bool.true_eq_false, reduceCtorEq, false_iff, true_iff, iff_true, iff_false, and_true, true_and, and_false, false_and, reduceIte, ite_true, ite_false, eq_self] at *)) <;> omega)
                        clear hv31
                        refine wa_istore_nD (lv' := [(2, .int v31), (0, .ref 84), (1, .int v4), (3, .int (bI l3)), (4, .int l4)]) (i := 2) rfl (by decide) rfl ?_
                        refine wa_goto o_X12_placeOf_52 (by decide) ?_
                        refine wa_pick [1, 2, 0] rfl ?_
                        exact ih6 _ (by ((try simp only [vp_in_iff, Int32.lt_iff_toInt_lt, Int32.le_iff_toInt_le, ← Int32.toInt_inj, Int32.reduceToInt, n_1, n_2, n_8, Int32.toNatClampNeg, Int64.lt_iff_toInt_lt, Int64.le_iff_toInt_le, ← Int64.toInt_inj, Int64.reduceToInt, Int32.toInt_toInt64, lg_cmp_ge, lg_cmp_le, lg_cmp_gt, lg_cmp_lt, lg_cmp_eq, Bool.false_eq_true, Bool.true_eq_false, reduceCtorEq, false_iff, true_iff, iff_true, iff_false, and_true, true_and, and_false, false_and, reduceIte, ite_true, ite_false, eq_self] at *)) <;> omega) _ ⟨(by ((try simp only [vp_in_iff, Int32.lt_iff_toInt_lt, Int32.le_iff_toInt_le, ← Int32.toInt_inj, Int32.reduceToInt, n_1, n_2, n_8, Int32.toNatClampNeg, Int64.lt_iff_toInt_lt, Int64.le_iff_toInt_le, ← Int64.toInt_inj, Int64.reduceToInt, Int32.toInt_toInt64, lg_cmp_ge, lg_cmp_le, lg_cmp_gt, lg_cmp_lt, lg_cmp_eq, Bool.false_eq_true, Bool.true_eq_false, reduceCtorEq, false_iff, true_iff, iff_true, iff_false, and_true, true_and, and_false, false_and, reduceIte, ite_true, ite_false, eq_self] at *)) <;> omega), (by first | assumption | (((try simp only [vp_in_iff, Int32.lt_iff_toInt_lt, Int32.le_iff_toInt_le, ← Int32.toInt_inj, Int32.reduceToInt, n_1, n_2, n_8, Int32.toNatClampNeg, Int64.lt_iff_toInt_lt, Int64.le_iff_toInt_le, ← Int64.toInt_inj, Int64.reduceToInt, Int32.toInt_toInt64, lg_cmp_ge, lg_cmp_le, lg_cmp_gt, lg_cmp_lt, lg_cmp_eq, Bool.false_eq_true, Bool.true_eq_false, reduceCtorEq, false_iff, true_iff, iff_true, iff_false, and_true, true_and, and_false, false_and, reduceIte, ite_true, ite_false, eq_self] at *)) <;> omega)), trivial⟩ rfl
                      · replace h30 := bI_t (b := l3) (rfl) h30
                        refine wa_iload_n (i := 2) rfl rfl ?_
                        refine wa_ireturn rfl rfl ?_
                        exact ⟨_, rfl, (Fm.rf [126, 127, 129] [129] σ), (by ((try simp only [vp_in_iff, Int32.lt_iff_toInt_lt, Int32.le_iff_toInt_le, ← Int32.toInt_inj, Int32.reduceToInt, n_1, n_2, n_8, Int32.toNatClampNeg, Int64.lt_iff_toInt_lt, Int64.le_iff_toInt_le, ← Int64.toInt_inj, Int64.reduceToInt, Int32.toInt_toInt64, lg_cmp_ge, lg_cmp_le, lg_cmp_gt, lg_cmp_lt, lg_cmp_eq, Bool.false_eq_true, Bool.true_eq_false, reduceCtorEq, false_iff, true_iff, iff_true, iff_false, and_true, true_and, and_false, false_and, reduceIte, ite_true, ite_false, eq_self] at *)) <;> omega), (by first | assumption | (((try simp only [vp_in_iff, Int32.lt_iff_toInt_lt, Int32.le_iff_toInt_le, ← Int32.toInt_inj, Int32.reduceToInt, n_1, n_2, n_8, Int32.toNatClampNeg, Int64.lt_iff_toInt_lt, Int64.le_iff_toInt_le, ← Int64.toInt_inj, Int64.reduceToInt, Int32.toInt_toInt64, lg_cmp_ge, lg_cmp_le, lg_cmp_gt, lg_cmp_lt, lg_cmp_eq, Bool.false_eq_true, Bool.true_eq_false, reduceCtorEq, false_iff, true_iff, iff_true, iff_false, and_true, true_and, and_false, false_and, reduceIte, ite_true, ite_false, eq_self] at *)) <;> omega)), (by first | assumption | (((try simp only [vp_in_iff, Int32.lt_iff_toInt_lt, Int32.le_iff_toInt_le, ← Int32.toInt_inj, Int32.reduceToInt, n_1, n_2, n_8, Int32.toNatClampNeg, Int64.lt_iff_toInt_lt, Int64.le_iff_toInt_le, ← Int64.toInt_inj, Int64.reduceToInt, Int32.toInt_toInt64, lg_cmp_ge, lg_cmp_le, lg_cmp_gt, lg_cmp_lt, lg_cmp_eq, Bool.false_eq_true, Bool.true_eq_false, reduceCtorEq, false_iff, true_iff, iff_true, iff_false, and_true, true_and, and_false, false_and, reduceIte, ite_true, ite_false, eq_self] at *)) <;> omega)), (by first | assumption | (((try simp only [vp_in_iff, Int32.lt_iff_toInt_lt, Int32.le_iff_toInt_le, ← Int32.toInt_inj, Int32.reduceToInt, n_1, n_2, n_8, Int32.toNatClampNeg, Int64.lt_iff_toInt_lt, Int64.le_iff_toInt_le, ← Int64.toInt_inj, Int64.reduceToInt, Int32.toInt_toInt64, lg_cmp_ge, lg_cmp_le, lg_cmp_gt, lg_cmp_lt, lg_cmp_eq, Bool.false_eq_true, Bool.true_eq_false, reduceCtorEq, false_iff, true_iff, iff_true, iff_false, and_true, true_and, and_false, false_and, reduceIte, ite_true, ite_false, eq_self] at *)) <;> omega)), P_CHA, P_HDS, P_DV, trivial⟩
                    · replace h29 := bI_t (b := l3) (rfl) h29
                      refine wa_aload_n (i := 0) rfl rfl ?_
                      refine wa_getr ck_12 fl_12_317 ly_84 rf_84_125 ?_
                      refine wa_bipush (v := 32) (by decide) ?_
                      refine wa_iload_n (i := 2) rfl rfl ?_
                      refine wa_imul ?_
                      refine wa_top (fun v32 hv32 => ?_)
                      have tv32 := i_mulT hv32
                      clear hv32
                      refine wa_iload rfl ?_
                      refine wa_iadd ?_
                      refine wa_top (fun v33 hv33 => ?_)
                      have tv33 := i_addT hv33
                      clear hv33
                      refine wa_iald ly_129 (by ((try simp only [vp_in_iff, Int32.lt_iff_toInt_lt, Int32.le_iff_toInt_le, ← Int32.toInt_inj, Int32.reduceToInt, n_1, n_2, n_8, Int32.toNatClampNeg, Int64.lt_iff_toInt_lt, Int64.le_iff_toInt_le, ← Int64.toInt_inj, Int64.reduceToInt, Int32.toInt_toInt64, lg_cmp_ge, lg_cmp_le, lg_cmp_gt, lg_cmp_lt, lg_cmp_eq, Bool.false_eq_true, Bool.true_eq_false, reduceCtorEq, false_iff, true_iff, iff_true, iff_false, and_true, true_and, and_false, false_and, reduceIte, ite_true, ite_false, eq_self] at *)) <;> omega) ?_
                      refine wa_aload_n (i := 0) rfl rfl ?_
                      refine wa_getr ck_12 fl_12_331 ly_84 rf_84_130 ?_
                      refine wa_iload rfl ?_
                      refine wa_iald ly_125 (by ((try simp only [vp_in_iff, Int32.lt_iff_toInt_lt, Int32.le_iff_toInt_le, ← Int32.toInt_inj, Int32.reduceToInt, n_1, n_2, n_8, Int32.toNatClampNeg, Int64.lt_iff_toInt_lt, Int64.le_iff_toInt_le, ← Int64.toInt_inj, Int64.reduceToInt, Int32.toInt_toInt64, lg_cmp_ge, lg_cmp_le, lg_cmp_gt, lg_cmp_lt, lg_cmp_eq, Bool.false_eq_true, Bool.true_eq_false, reduceCtorEq, false_iff, true_iff, iff_true, iff_false, and_true, true_and, and_false, false_and, reduceIte, ite_true, ite_false, eq_self] at *)) <;> omega) ?_
                      refine wa_icmp_ne o_X12_placeOf_101 (by decide) (fun h34 => ?_) (fun h34 => ?_)
                      · refine wa_iconst (v := 0) (by decide) ?_
                        refine wa_istore_nD (lv' := [(3, .int (bI false)), (0, .ref 84), (1, .int v4), (2, .int l2), (4, .int l4)]) (i := 3) rfl (by decide) rfl ?_
                        refine wa_iinc (v := (1)) (lv' := fun y35 => [(4, .int y35), (3, .int (bI false)), (0, .ref 84), (1, .int v4), (2, .int l2)]) (by decide) rfl (by decide) (fun _ => rfl) (fun y35 hy35 => ?_)
                        have ty35 := i_addT hy35.symm
                        clear hy35
                        refine wa_goto o_X12_placeOf_62 (by decide) ?_
                        refine wa_pick [2, 3, 4, 1, 0] rfl ?_
                        exact ih24 _ (by ((try simp only [vp_in_iff, Int32.lt_iff_toInt_lt, Int32.le_iff_toInt_le, ← Int32.toInt_inj, Int32.reduceToInt, n_1, n_2, n_8, Int32.toNatClampNeg, Int64.lt_iff_toInt_lt, Int64.le_iff_toInt_le, ← Int64.toInt_inj, Int64.reduceToInt, Int32.toInt_toInt64, lg_cmp_ge, lg_cmp_le, lg_cmp_gt, lg_cmp_lt, lg_cmp_eq, Bool.false_eq_true, Bool.true_eq_false, reduceCtorEq, false_iff, true_iff, iff_true, iff_false, and_true, true_and, and_false, false_and, reduceIte, ite_true, ite_false, eq_self] at *)) <;> omega) _ _ ⟨(by ((try simp only [vp_in_iff, Int32.lt_iff_toInt_lt, Int32.le_iff_toInt_le, ← Int32.toInt_inj, Int32.reduceToInt, n_1, n_2, n_8, Int32.toNatClampNeg, Int64.lt_iff_toInt_lt, Int64.le_iff_toInt_le, ← Int64.toInt_inj, Int64.reduceToInt, Int32.toInt_toInt64, lg_cmp_ge, lg_cmp_le, lg_cmp_gt, lg_cmp_lt, lg_cmp_eq, Bool.false_eq_true, Bool.true_eq_false, reduceCtorEq, false_iff, true_iff, iff_true, iff_false, and_true, true_and, and_false, false_and, reduceIte, ite_true, ite_false, eq_self] at *)) <;> omega), trivial⟩ rfl
                      · refine wa_iconst (v := 1) (by decide) ?_
                        refine wa_goto o_X12_placeOf_102 (by decide) ?_
                        refine wa_istore_nD (lv' := [(3, .int (bI true)), (0, .ref 84), (1, .int v4), (2, .int l2), (4, .int l4)]) (i := 3) rfl (by decide) rfl ?_
                        refine wa_iinc (v := (1)) (lv' := fun y36 => [(4, .int y36), (3, .int (bI true)), (0, .ref 84), (1, .int v4), (2, .int l2)]) (by decide) rfl (by decide) (fun _ => rfl) (fun y36 hy36 => ?_)
                        have ty36 := i_addT hy36.symm
                        clear hy36
                        refine wa_goto o_X12_placeOf_62 (by decide) ?_
                        refine wa_pick [2, 3, 4, 1, 0] rfl ?_
                        exact ih24 _ (by ((try simp only [vp_in_iff, Int32.lt_iff_toInt_lt, Int32.le_iff_toInt_le, ← Int32.toInt_inj, Int32.reduceToInt, n_1, n_2, n_8, Int32.toNatClampNeg, Int64.lt_iff_toInt_lt, Int64.le_iff_toInt_le, ← Int64.toInt_inj, Int64.reduceToInt, Int32.toInt_toInt64, lg_cmp_ge, lg_cmp_le, lg_cmp_gt, lg_cmp_lt, lg_cmp_eq, Bool.false_eq_true, Bool.true_eq_false, reduceCtorEq, false_iff, true_iff, iff_true, iff_false, and_true, true_and, and_false, false_and, reduceIte, ite_true, ite_false, eq_self] at *)) <;> omega) _ _ ⟨(by ((try simp only [vp_in_iff, Int32.lt_iff_toInt_lt, Int32.le_iff_toInt_le, ← Int32.toInt_inj, Int32.reduceToInt, n_1, n_2, n_8, Int32.toNatClampNeg, Int64.lt_iff_toInt_lt, Int64.le_iff_toInt_le, ← Int64.toInt_inj, Int64.reduceToInt, Int32.toInt_toInt64, lg_cmp_ge, lg_cmp_le, lg_cmp_gt, lg_cmp_lt, lg_cmp_eq, Bool.false_eq_true, Bool.true_eq_false, reduceCtorEq, false_iff, true_iff, iff_true, iff_false, and_true, true_and, and_false, false_and, reduceIte, ite_true, ite_false, eq_self] at *)) <;> omega), trivial⟩ rfl
              exact hi25 _ _ _ ⟨(by ((try simp only [vp_in_iff, Int32.lt_iff_toInt_lt, Int32.le_iff_toInt_le, ← Int32.toInt_inj, Int32.reduceToInt, n_1, n_2, n_8, Int32.toNatClampNeg, Int64.lt_iff_toInt_lt, Int64.le_iff_toInt_le, ← Int64.toInt_inj, Int64.reduceToInt, Int32.toInt_toInt64, lg_cmp_ge, lg_cmp_le, lg_cmp_gt, lg_cmp_lt, lg_cmp_eq, Bool.false_eq_true, Bool.true_eq_false, reduceCtorEq, false_iff, true_iff, iff_true, iff_false, and_true, true_and, and_false, false_and, reduceIte, ite_true, ite_false, eq_self] at *)) <;> omega), trivial⟩ rfl
        exact hi7 _ _ ⟨(by ((try simp only [vp_in_iff, Int32.lt_iff_toInt_lt, Int32.le_iff_toInt_le, ← Int32.toInt_inj, Int32.reduceToInt, n_1, n_2, n_8, Int32.toNatClampNeg, Int64.lt_iff_toInt_lt, Int64.le_iff_toInt_le, ← Int64.toInt_inj, Int64.reduceToInt, Int32.toInt_toInt64, lg_cmp_ge, lg_cmp_le, lg_cmp_gt, lg_cmp_lt, lg_cmp_eq, Bool.false_eq_true, Bool.true_eq_false, reduceCtorEq, false_iff, true_iff, iff_true, iff_false, and_true, true_and, and_false, false_and, reduceIte, ite_true, ite_false, eq_self] at *)) <;> omega), (by first | assumption | (((try simp only [vp_in_iff, Int32.lt_iff_toInt_lt, Int32.le_iff_toInt_le, ← Int32.toInt_inj, Int32.reduceToInt, n_1, n_2, n_8, Int32.toNatClampNeg, Int64.lt_iff_toInt_lt, Int64.le_iff_toInt_le, ← Int64.toInt_inj, Int64.reduceToInt, Int32.toInt_toInt64, lg_cmp_ge, lg_cmp_le, lg_cmp_gt, lg_cmp_lt, lg_cmp_eq, Bool.false_eq_true, Bool.true_eq_false, reduceCtorEq, false_iff, true_iff, iff_true, iff_false, and_true, true_and, and_false, false_and, reduceIte, ite_true, ite_false, eq_self] at *)) <;> omega)), trivial⟩ rfl
      · have mh3 := nle_mx h3
        refine wa_iload_n (i := 1) rfl rfl ?_
        refine wa_aload_n (i := 0) rfl rfl ?_
        refine wa_getr ck_12 fl_12_331 ly_84 rf_84_130 ?_
        refine wa_iload_n (i := 2) rfl rfl ?_
        refine wa_iald ly_125 (by ((try simp only [vp_in_iff, Int32.lt_iff_toInt_lt, Int32.le_iff_toInt_le, ← Int32.toInt_inj, Int32.reduceToInt, n_1, n_2, n_8, Int32.toNatClampNeg, Int64.lt_iff_toInt_lt, Int64.le_iff_toInt_le, ← Int64.toInt_inj, Int64.reduceToInt, Int32.toInt_toInt64, lg_cmp_ge, lg_cmp_le, lg_cmp_gt, lg_cmp_lt, lg_cmp_eq, Bool.false_eq_true, Bool.true_eq_false, reduceCtorEq, false_iff, true_iff, iff_true, iff_false, and_true, true_and, and_false, false_and, reduceIte, ite_true, ite_false, eq_self] at *)) <;> omega) ?_
        refine wa_ixor ?_
        refine wa_top (fun v37 hv37 => ?_)
        clear hv37
        refine wa_ldcw (v := (-1640531535)) (allW_in (kT_12 _ (List.mem_of_getElem? (i := 92) rfl)) rfl) ?_
        refine wa_imul ?_
        refine wa_top (fun v38 hv38 => ?_)
        have tv38 := i_mulT hv38
        clear hv38
        refine wa_istore_nD (lv' := [(1, .int v38), (0, .ref 84), (2, .int l2)]) (i := 1) rfl (by decide) rfl ?_
        refine wa_iload_n (i := 1) rfl rfl ?_
        refine wa_iload_n (i := 1) rfl rfl ?_
        refine wa_bipush (v := 15) (by decide) ?_
        refine wa_iushr ?_
        refine wa_top (fun v39 hv39 => ?_)
        clear hv39
        refine wa_ixor ?_
        refine wa_top (fun v40 hv40 => ?_)
        clear hv40
        refine wa_istore_nD (lv' := [(1, .int v40), (0, .ref 84), (2, .int l2)]) (i := 1) rfl (by decide) rfl ?_
        refine wa_iinc (v := (1)) (lv' := fun y41 => [(2, .int y41), (1, .int v40), (0, .ref 84)]) (by decide) rfl (by decide) (fun _ => rfl) (fun y41 hy41 => ?_)
        have ty41 := i_addT hy41.symm
        clear hy41
        refine wa_goto o_X12_placeOf_5 (by decide) ?_
        refine wa_pick [2, 1, 0] rfl ?_
        exact ih1 _ (by ((try simp only [vp_in_iff, Int32.lt_iff_toInt_lt, Int32.le_iff_toInt_le, ← Int32.toInt_inj, Int32.reduceToInt, n_1, n_2, n_8, Int32.toNatClampNeg, Int64.lt_iff_toInt_lt, Int64.le_iff_toInt_le, ← Int64.toInt_inj, Int64.reduceToInt, Int32.toInt_toInt64, lg_cmp_ge, lg_cmp_le, lg_cmp_gt, lg_cmp_lt, lg_cmp_eq, Bool.false_eq_true, Bool.true_eq_false, reduceCtorEq, false_iff, true_iff, iff_true, iff_false, and_true, true_and, and_false, false_and, reduceIte, ite_true, ite_false, eq_self] at *)) <;> omega) _ _ ⟨(by ((try simp only [vp_in_iff, Int32.lt_iff_toInt_lt, Int32.le_iff_toInt_le, ← Int32.toInt_inj, Int32.reduceToInt, n_1, n_2, n_8, Int32.toNatClampNeg, Int64.lt_iff_toInt_lt, Int64.le_iff_toInt_le, ← Int64.toInt_inj, Int64.reduceToInt, Int32.toInt_toInt64, lg_cmp_ge, lg_cmp_le, lg_cmp_gt, lg_cmp_lt, lg_cmp_eq, Bool.false_eq_true, Bool.true_eq_false, reduceCtorEq, false_iff, true_iff, iff_true, iff_false, and_true, true_and, and_false, false_and, reduceIte, ite_true, ite_false, eq_self] at *)) <;> omega), trivial⟩ rfl
  exact hi2 _ _ _ ⟨(by ((try simp only [vp_in_iff, Int32.lt_iff_toInt_lt, Int32.le_iff_toInt_le, ← Int32.toInt_inj, Int32.reduceToInt, n_1, n_2, n_8, Int32.toNatClampNeg, Int64.lt_iff_toInt_lt, Int64.le_iff_toInt_le, ← Int64.toInt_inj, Int64.reduceToInt, Int32.toInt_toInt64, lg_cmp_ge, lg_cmp_le, lg_cmp_gt, lg_cmp_lt, lg_cmp_eq, Bool.false_eq_true, Bool.true_eq_false, reduceCtorEq, false_iff, true_iff, iff_true, iff_false, and_true, true_and, and_false, false_and, reduceIte, ite_true, ite_false, eq_self] at *)) <;> omega), trivial⟩ rfl
theorem pad_31c : True := trivial
