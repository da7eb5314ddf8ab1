set_option maxHeartbeats 4000000 in
theorem sp_X12_own (G : kG9) {d : Nat} (hd : 5 ≤ d) (σ : St) (a0 : Int32) (r1 : 0 ≤ (gi σ 84 33).toInt ∧ (gi σ 84 33).toInt ≤ 24) (r2 : 0 ≤ (gi σ 84 119).toInt ∧ (gi σ 84 119).toInt ≤ 576) (r3 : 0 ≤ (gi σ 84 119).toInt ∧ (gi σ 84 119).toInt ≤ 700) (r4 : (gi σ 84 119).toInt ≤ 700) (r5 : (gi σ 84 119).toInt ≤ 32) (r6 : 0 ≤ (gi σ 84 129).toInt ∧ (gi σ 84 129).toInt ≤ 3000) (r7 : 0 ≤ (gi σ 84 32).toInt ∧ (gi σ 84 32).toInt ≤ 4) (r8 : 0 ≤ (gi σ 84 131).toInt ∧ (gi σ 84 131).toInt ≤ 16) (r9 : 0 ≤ (gi σ 84 119).toInt ∧ (gi σ 84 119).toInt ≤ 32) (r10 : 0 ≤ (gi σ 84 156).toInt ∧ (gi σ 84 156).toInt ≤ 3000) (r11 : 0 ≤ (gi σ 84 157).toInt ∧ (gi σ 84 157).toInt ≤ 16) (A_109 : AR ap_109 σ 109) (A_110 : AR ap_110 σ 110) (A_112 : AR ap_112 σ 112) (A_128 : AR ap_128 σ 128) (A_134 : AR ap_134 σ 134) (A_135 : AR ap_135 σ 135) (A_136 : AR ap_136 σ 136) (A_137 : AR ap_137 σ 137) (A_155 : AR ap_155 σ 155) (A_156 : AR ap_156 σ 156) (A_157 : AR ap_157 σ 157) (A_158 : AR ap_158 σ 158) (A_159 : AR ap_159 σ 159) (A_173 : AR ap_173 σ 173) (A_183 : AR ap_183 σ 183) (A_184 : AR ap_184 σ 184) (A_185 : AR ap_185 σ 185) (A_194 : AR ap_194 σ 194) (P_INW : INW σ) (P_AOK : AOK σ) (P_WOK : WOK σ) (P_CHA : CHA σ) (P_NAT : NAT σ) (P_NOK : NOK σ) (P_CLI : CLI σ) : Ct G M_X12_own d [.ref 84, .int a0] σ (fun r σ' => ∃ x : Int32, r = some (.int x) ∧ Fm [106, 107, 108, 109, 110, 112, 120, 121, 123, 124, 125, 126, 127, 128, 129, 130, 131, 132, 133, 134, 135, 136, 137] [0, 119, 129, 131, 156, 157] σ σ' ∧ (0 ≤ (gi σ' 84 129).toInt ∧ (gi σ' 84 129).toInt ≤ 3000) ∧ (0 ≤ (gi σ' 84 131).toInt ∧ (gi σ' 84 131).toInt ≤ 16) ∧ (0 ≤ (gi σ' 84 156).toInt ∧ (gi σ' 84 156).toInt ≤ 3000) ∧ (0 ≤ (gi σ' 84 157).toInt ∧ (gi σ' 84 157).toInt ≤ 16) ∧ AR ap_109 σ' 109 ∧ AR ap_110 σ' 110 ∧ AR ap_112 σ' 112 ∧ AR ap_128 σ' 128 ∧ AR ap_134 σ' 134 ∧ AR ap_135 σ' 135 ∧ AR ap_136 σ' 136 ∧ AR ap_137 σ' 137 ∧ INW σ' ∧ WOK σ' ∧ CHA σ' ∧ True) := by
  refine wa_start (by decide) rfl (Nat.le_of_ble_eq_true rfl) (lv := [(0, .ref 84), (1, .int a0)]) rfl o_X12_own_0 rfl ?_
  have ua0 := Int32.toInt_lt a0
  have wa0 := Int32.le_toInt a0
  refine wa_aload_n (i := 0) rfl rfl ?_
  refine wa_Vi (d9 := d - 1) [] [] (sp_X12_asks G (d := d - 1) (by omega) σ ) (rfl) rfl rfl (zr (by omega)) mk_X12_asks ly_84 ml_12_871 (Nat.le_of_ble_eq_true rfl) (fun x2 s1 hs1 => ?_)
  obtain ⟨bx2, ex2, fs1, -⟩ := pB hs1
  subst ex2
  have Fs1 : Fm [106, 107, 108, 109, 110, 112, 120, 121, 123, 124, 125, 126, 127, 128, 129, 130, 131, 132, 133, 134, 135, 136, 137] [0, 119, 129, 131, 156, 157] σ s1 := Fm.tr (Fm.rf [106, 107, 108, 109, 110, 112, 120, 121, 123, 124, 125, 126, 127, 128, 129, 130, 131, 132, 133, 134, 135, 136, 137] [0, 119, 129, 131, 156, 157] σ) (Fm.wd fs1 rfl rfl)
  refine wa_if_ne o_X12_own_10 (by decide) (fun h3 => ?_) (fun h3 => ?_)
  · replace h3 := bI_t (b := bx2) (rfl) h3
    refine wa_aload_n (i := 0) rfl rfl ?_
    refine wa_iload_n (i := 1) rfl rfl ?_
    refine wa_Vi (d9 := d - 1) [.int _] [] (sp_X12_isClaim G (d := d - 1) (by omega) s1 _ (by rw [Fm.gi fs1 (q := 84) (k := 33) rfl rfl]; first | assumption | exact Or.inl rfl | exact Or.inr rfl | (((try simp only [vp_in_iff, Int32.lt_iff_toInt_lt, Int32.le_iff_toInt_le, ← Int32.toInt_inj, Int32.reduceToInt, n_1, n_2, n_8, Int32.toNatClampNeg, Int64.lt_iff_toInt_lt, Int64.le_iff_toInt_le, ← Int64.toInt_inj, Int64.reduceToInt, Int32.toInt_toInt64, lg_cmp_ge, lg_cmp_le, lg_cmp_gt, lg_cmp_lt, lg_cmp_eq, Bool.false_eq_true, Bool.true_eq_false, reduceCtorEq, false_iff, true_iff, iff_true, iff_false, and_true, true_and, and_false, false_and, reduceIte, ite_true, ite_false, eq_self] at *)) <;> omega))) (rfl) rfl rfl (zr (by omega)) mk_X12_isClaim ly_84 ml_12_877 (Nat.le_of_ble_eq_true rfl) (fun x5 s4 hs4 => ?_)
    obtain ⟨bx5, ex5, zs4, cx5_1, -⟩ := pB hs4
    subst ex5
    rw [Fm.gi fs1 (q := 84) (k := 33) rfl rfl] at cx5_1
    subst zs4
    refine wa_if_ne o_X12_own_21 (by decide) (fun h6 => ?_) (fun h6 => ?_)
    · replace h6 := bI_t (b := bx5) (rfl) h6
      have uh6_0 := iff_t cx5_1 h6
      refine wa_aload_n (i := 0) rfl rfl ?_
      refine wa_Vv (d9 := d - 1) [] [] (sp_X12_idle G (d := d - 1) (by omega) s1 ) (rfl) rfl rfl (zr (by omega)) mk_X12_idle ly_84 ml_12_934 (Nat.le_of_ble_eq_true rfl) (fun s7 hs7 => ?_)
      obtain ⟨fs7, cx8_1, Ps7_INW, -⟩ := hs7
      have Fs7 : Fm [106, 107, 108, 109, 110, 112, 120, 121, 123, 124, 125, 126, 127, 128, 129, 130, 131, 132, 133, 134, 135, 136, 137] [0, 119, 129, 131, 156, 157] σ s7 := Fm.tr Fs1 (Fm.wd fs7 rfl rfl)
      refine wa_aload_n (i := 0) rfl rfl ?_
      refine wa_iload_n (i := 1) rfl rfl ?_
      refine wa_Vv (d9 := d - 1) [.int _] [] (sp_X12_put G (d := d - 1) (by omega) s7 _ (by ((try simp only [vp_in_iff, Int32.lt_iff_toInt_lt, Int32.le_iff_toInt_le, ← Int32.toInt_inj, Int32.reduceToInt, n_1, n_2, n_8, Int32.toNatClampNeg, Int64.lt_iff_toInt_lt, Int64.le_iff_toInt_le, ← Int64.toInt_inj, Int64.reduceToInt, Int32.toInt_toInt64, lg_cmp_ge, lg_cmp_le, lg_cmp_gt, lg_cmp_lt, lg_cmp_eq, Bool.false_eq_true, Bool.true_eq_false, reduceCtorEq, false_iff, true_iff, iff_true, iff_false, and_true, true_and, and_false, false_and, reduceIte, ite_true, ite_false, eq_self] at *)) <;> omega) (by first | assumption | exact Or.inl rfl | exact Or.inr rfl | (((try simp only [vp_in_iff, Int32.lt_iff_toInt_lt, Int32.le_iff_toInt_le, ← Int32.toInt_inj, Int32.reduceToInt, n_1, n_2, n_8, Int32.toNatClampNeg, Int64.lt_iff_toInt_lt, Int64.le_iff_toInt_le, ← Int64.toInt_inj, Int64.reduceToInt, Int32.toInt_toInt64, lg_cmp_ge, lg_cmp_le, lg_cmp_gt, lg_cmp_lt, lg_cmp_eq, Bool.false_eq_true, Bool.true_eq_false, reduceCtorEq, false_iff, true_iff, iff_true, iff_false, and_true, true_and, and_false, false_and, reduceIte, ite_true, ite_false, eq_self] at *)) <;> omega)) (ar_fm fs7 rfl rfl (ar_fm fs1 rfl rfl A_135)) (ar_fm fs7 rfl rfl (ar_fm fs1 rfl rfl A_136)) (ar_fm fs7 rfl rfl (ar_fm fs1 rfl rfl A_137)) (ar_fm fs7 rfl rfl (ar_fm fs1 rfl rfl A_156)) (ar_fm fs7 rfl rfl (ar_fm fs1 rfl rfl A_157)) (ar_fm fs7 rfl rfl (ar_fm fs1 rfl rfl A_158)) (ar_fm fs7 rfl rfl (ar_fm fs1 rfl rfl A_159)) Ps7_INW (AOK_of (fun k => (Fm.gi fs7 (q := 157) (k := k) rfl rfl).trans (Fm.gi fs1 (q := 157) (k := k) rfl rfl)) (fun k => (Fm.gi fs7 (q := 158) (k := k) rfl rfl).trans (Fm.gi fs1 (q := 158) (k := k) rfl rfl)) P_AOK) (WOK_of (fun k => (Fm.gi fs7 (q := 135) (k := k) rfl rfl).trans (Fm.gi fs1 (q := 135) (k := k) rfl rfl)) (fun k => (Fm.gi fs7 (q := 136) (k := k) rfl rfl).trans (Fm.gi fs1 (q := 136) (k := k) rfl rfl)) P_WOK)) (rfl) rfl rfl (zr (by omega)) mk_X12_put ly_84 ml_12_937 (Nat.le_of_ble_eq_true rfl) (fun s9 hs9 => ?_)
      obtain ⟨fs9, cx10_1, cx10_2, As9_135, As9_136, As9_137, Ps9_INW, Ps9_WOK, -⟩ := hs9
      have Fs9 : Fm [106, 107, 108, 109, 110, 112, 120, 121, 123, 124, 125, 126, 127, 128, 129, 130, 131, 132, 133, 134, 135, 136, 137] [0, 119, 129, 131, 156, 157] σ s9 := Fm.tr Fs7 (Fm.wd fs9 rfl rfl)
      refine wa_aload_n (i := 0) rfl rfl ?_
      refine wa_Vi (d9 := d - 1) [] [] (sp_X12_explore G (d := d - 1) (by omega) s9  (by first | assumption | exact Or.inl rfl | exact Or.inr rfl | (((try simp only [vp_in_iff, Int32.lt_iff_toInt_lt, Int32.le_iff_toInt_le, ← Int32.toInt_inj, Int32.reduceToInt, n_1, n_2, n_8, Int32.toNatClampNeg, Int64.lt_iff_toInt_lt, Int64.le_iff_toInt_le, ← Int64.toInt_inj, Int64.reduceToInt, Int32.toInt_toInt64, lg_cmp_ge, lg_cmp_le, lg_cmp_gt, lg_cmp_lt, lg_cmp_eq, Bool.false_eq_true, Bool.true_eq_false, reduceCtorEq, false_iff, true_iff, iff_true, iff_false, and_true, true_and, and_false, false_and, reduceIte, ite_true, ite_false, eq_self] at *)) <;> omega)) (by first | assumption | exact Or.inl rfl | exact Or.inr rfl | (((try simp only [vp_in_iff, Int32.lt_iff_toInt_lt, Int32.le_iff_toInt_le, ← Int32.toInt_inj, Int32.reduceToInt, n_1, n_2, n_8, Int32.toNatClampNeg, Int64.lt_iff_toInt_lt, Int64.le_iff_toInt_le, ← Int64.toInt_inj, Int64.reduceToInt, Int32.toInt_toInt64, lg_cmp_ge, lg_cmp_le, lg_cmp_gt, lg_cmp_lt, lg_cmp_eq, Bool.false_eq_true, Bool.true_eq_false, reduceCtorEq, false_iff, true_iff, iff_true, iff_false, and_true, true_and, and_false, false_and, reduceIte, ite_true, ite_false, eq_self] at *)) <;> omega)) (by first | assumption | exact Or.inl rfl | exact Or.inr rfl | (((try simp only [vp_in_iff, Int32.lt_iff_toInt_lt, Int32.le_iff_toInt_le, ← Int32.toInt_inj, Int32.reduceToInt, n_1, n_2, n_8, Int32.toNatClampNeg, Int64.lt_iff_toInt_lt, Int64.le_iff_toInt_le, ← Int64.toInt_inj, Int64.reduceToInt, Int32.toInt_toInt64, lg_cmp_ge, lg_cmp_le, lg_cmp_gt, lg_cmp_lt, lg_cmp_eq, Bool.false_eq_true, Bool.true_eq_false, reduceCtorEq, false_iff, true_iff, iff_true, iff_false, and_true, true_and, and_false, false_and, reduceIte, ite_true, ite_false, eq_self] at *)) <;> omega)) (by rw [(Fm.gi fs9 (q := 84) (k := 129) rfl rfl).trans ((Fm.gi fs7 (q := 84) (k := 129) rfl rfl).trans (Fm.gi fs1 (q := 84) (k := 129) rfl rfl))]; first | assumption | exact Or.inl rfl | exact Or.inr rfl | (((try simp only [vp_in_iff, Int32.lt_iff_toInt_lt, Int32.le_iff_toInt_le, ← Int32.toInt_inj, Int32.reduceToInt, n_1, n_2, n_8, Int32.toNatClampNeg, Int64.lt_iff_toInt_lt, Int64.le_iff_toInt_le, ← Int64.toInt_inj, Int64.reduceToInt, Int32.toInt_toInt64, lg_cmp_ge, lg_cmp_le, lg_cmp_gt, lg_cmp_lt, lg_cmp_eq, Bool.false_eq_true, Bool.true_eq_false, reduceCtorEq, false_iff, true_iff, iff_true, iff_false, and_true, true_and, and_false, false_and, reduceIte, ite_true, ite_false, eq_self] at *)) <;> omega)) (by rw [(Fm.gi fs9 (q := 84) (k := 32) rfl rfl).trans ((Fm.gi fs7 (q := 84) (k := 32) rfl rfl).trans (Fm.gi fs1 (q := 84) (k := 32) rfl rfl))]; first | assumption | exact Or.inl rfl | exact Or.inr rfl | (((try simp only [vp_in_iff, Int32.lt_iff_toInt_lt, Int32.le_iff_toInt_le, ← Int32.toInt_inj, Int32.reduceToInt, n_1, n_2, n_8, Int32.toNatClampNeg, Int64.lt_iff_toInt_lt, Int64.le_iff_toInt_le, ← Int64.toInt_inj, Int64.reduceToInt, Int32.toInt_toInt64, lg_cmp_ge, lg_cmp_le, lg_cmp_gt, lg_cmp_lt, lg_cmp_eq, Bool.false_eq_true, Bool.true_eq_false, reduceCtorEq, false_iff, true_iff, iff_true, iff_false, and_true, true_and, and_false, false_and, reduceIte, ite_true, ite_false, eq_self] at *)) <;> omega)) (by rw [(Fm.gi fs9 (q := 84) (k := 131) rfl rfl).trans ((Fm.gi fs7 (q := 84) (k := 131) rfl rfl).trans (Fm.gi fs1 (q := 84) (k := 131) rfl rfl))]; first | assumption | exact Or.inl rfl | exact Or.inr rfl | (((try simp only [vp_in_iff, Int32.lt_iff_toInt_lt, Int32.le_iff_toInt_le, ← Int32.toInt_inj, Int32.reduceToInt, n_1, n_2, n_8, Int32.toNatClampNeg, Int64.lt_iff_toInt_lt, Int64.le_iff_toInt_le, ← Int64.toInt_inj, Int64.reduceToInt, Int32.toInt_toInt64, lg_cmp_ge, lg_cmp_le, lg_cmp_gt, lg_cmp_lt, lg_cmp_eq, Bool.false_eq_true, Bool.true_eq_false, reduceCtorEq, false_iff, true_iff, iff_true, iff_false, and_true, true_and, and_false, false_and, reduceIte, ite_true, ite_false, eq_self] at *)) <;> omega)) (ar_fm fs9 rfl rfl (ar_fm fs7 rfl rfl (ar_fm fs1 rfl rfl A_128))) (ar_fm fs9 rfl rfl (ar_fm fs7 rfl rfl (ar_fm fs1 rfl rfl A_134))) As9_135 As9_136 As9_137 (ar_fm fs9 rfl rfl (ar_fm fs7 rfl rfl (ar_fm fs1 rfl rfl A_156))) (ar_fm fs9 rfl rfl (ar_fm fs7 rfl rfl (ar_fm fs1 rfl rfl A_157))) (ar_fm fs9 rfl rfl (ar_fm fs7 rfl rfl (ar_fm fs1 rfl rfl A_158))) (ar_fm fs9 rfl rfl (ar_fm fs7 rfl rfl (ar_fm fs1 rfl rfl A_159))) (ar_fm fs9 rfl rfl (ar_fm fs7 rfl rfl (ar_fm fs1 rfl rfl A_194))) (CHA_of (fun k => (Fm.gi fs9 (q := 126) (k := k) rfl rfl).trans ((Fm.gi fs7 (q := 126) (k := k) rfl rfl).trans (Fm.gi fs1 (q := 126) (k := k) rfl rfl))) ((Fm.gi fs9 (q := 84) (k := 129) rfl rfl).trans ((Fm.gi fs7 (q := 84) (k := 129) rfl rfl).trans (Fm.gi fs1 (q := 84) (k := 129) rfl rfl))) P_CHA) Ps9_WOK Ps9_INW (NAT_of (fun k => (Fm.gi fs9 (q := 194) (k := k) rfl rfl).trans ((Fm.gi fs7 (q := 194) (k := k) rfl rfl).trans (Fm.gi fs1 (q := 194) (k := k) rfl rfl))) (fun k => (Fm.gi fs9 (q := 198) (k := k) rfl rfl).trans ((Fm.gi fs7 (q := 198) (k := k) rfl rfl).trans (Fm.gi fs1 (q := 198) (k := k) rfl rfl))) (fun k => (Fm.gi fs9 (q := 197) (k := k) rfl rfl).trans ((Fm.gi fs7 (q := 197) (k := k) rfl rfl).trans (Fm.gi fs1 (q := 197) (k := k) rfl rfl))) (fun k => (Fm.gi fs9 (q := 156) (k := k) rfl rfl).trans ((Fm.gi fs7 (q := 156) (k := k) rfl rfl).trans (Fm.gi fs1 (q := 156) (k := k) rfl rfl))) (fun k => (Fm.gi fs9 (q := 157) (k := k) rfl rfl).trans ((Fm.gi fs7 (q := 157) (k := k) rfl rfl).trans (Fm.gi fs1 (q := 157) (k := k) rfl rfl))) (fun k => (Fm.gi fs9 (q := 158) (k := k) rfl rfl).trans ((Fm.gi fs7 (q := 158) (k := k) rfl rfl).trans (Fm.gi fs1 (q := 158) (k := k) rfl rfl))) (fun k => (Fm.gi fs9 (q := 159) (k := k) rfl rfl).trans ((Fm.gi fs7 (q := 159) (k := k) rfl rfl).trans (Fm.gi fs1 (q := 159) (k := k) rfl rfl))) P_NAT) (NOK_of (fun k => (Fm.gi fs9 (q := 194) (k := k) rfl rfl).trans ((Fm.gi fs7 (q := 194) (k := k) rfl rfl).trans (Fm.gi fs1 (q := 194) (k := k) rfl rfl))) (fun k => (Fm.gi fs9 (q := 195) (k := k) rfl rfl).trans ((Fm.gi fs7 (q := 195) (k := k) rfl rfl).trans (Fm.gi fs1 (q := 195) (k := k) rfl rfl))) (fun k => (Fm.gi fs9 (q := 196) (k := k) rfl rfl).trans ((Fm.gi fs7 (q := 196) (k := k) rfl rfl).trans (Fm.gi fs1 (q := 196) (k := k) rfl rfl))) (fun k => (Fm.gi fs9 (q := 197) (k := k) rfl rfl).trans ((Fm.gi fs7 (q := 197) (k := k) rfl rfl).trans (Fm.gi fs1 (q := 197) (k := k) rfl rfl))) (fun k => (Fm.gi fs9 (q := 198) (k := k) rfl rfl).trans ((Fm.gi fs7 (q := 198) (k := k) rfl rfl).trans (Fm.gi fs1 (q := 198) (k := k) rfl rfl))) (fun k => (Fm.gi fs9 (q := 183) (k := k) rfl rfl).trans ((Fm.gi fs7 (q := 183) (k := k) rfl rfl).trans (Fm.gi fs1 (q := 183) (k := k) rfl rfl))) P_NOK)) (rfl) rfl rfl (zr (by omega)) mk_X12_explore ly_84 ml_12_985 (Nat.le_of_ble_eq_true rfl) (fun x12 s11 hs11 => ?_)
      obtain ⟨bx12, ex12, fs11, cx12_1, cx12_2, cx12_3, cx12_4, cx12_5, cx12_6, cx12_7, As11_128, As11_134, Ps11_CHA, Ps11_INW, -⟩ := pB hs11
      subst ex12
      have Fs11 : Fm [106, 107, 108, 109, 110, 112, 120, 121, 123, 124, 125, 126, 127, 128, 129, 130, 131, 132, 133, 134, 135, 136, 137] [0, 119, 129, 131, 156, 157] σ s11 := Fm.tr Fs9 (Fm.wd fs11 rfl rfl)
      refine wa_if_ne o_X12_own_40 (by decide) (fun h13 => ?_) (fun h13 => ?_)
      · replace h13 := bI_t (b := bx12) (rfl) h13
        have uh13_0 := cx12_1 h13
        have uh13_1 := cx12_2 h13
        have uh13_2 := cx12_3 h13
        have uh13_3 := cx12_4 h13
        have uh13_4 := cx12_5 h13
        refine wa_aload_n (i := 0) rfl rfl ?_
        refine wa_iconst (v := 2) (by decide) ?_
        refine wa_iload_n (i := 1) rfl rfl ?_
        refine wa_iconst (v := (-1)) (by decide) ?_
        have Ps11_DV : DV s11 := by assumption
        have Ps11_WKS : WKS s11 := by assumption
        have Ps11_BEH : BEH s11 := by assumption
        refine wa_Vv (d9 := d - 1) [.int _, .int _, .int _] [] (sp_X12_judge G (d := d - 1) (by omega) s11 _ _ _ (by ((try simp only [vp_in_iff, Int32.lt_iff_toInt_lt, Int32.le_iff_toInt_le, ← Int32.toInt_inj, Int32.reduceToInt, n_1, n_2, n_8, Int32.toNatClampNeg, Int64.lt_iff_toInt_lt, Int64.le_iff_toInt_le, ← Int64.toInt_inj, Int64.reduceToInt, Int32.toInt_toInt64, lg_cmp_ge, lg_cmp_le, lg_cmp_gt, lg_cmp_lt, lg_cmp_eq, Bool.false_eq_true, Bool.true_eq_false, reduceCtorEq, false_iff, true_iff, iff_true, iff_false, and_true, true_and, and_false, false_and, reduceIte, ite_true, ite_false, eq_self] at *)) <;> omega) (by ((try simp only [vp_in_iff, Int32.lt_iff_toInt_lt, Int32.le_iff_toInt_le, ← Int32.toInt_inj, Int32.reduceToInt, n_1, n_2, n_8, Int32.toNatClampNeg, Int64.lt_iff_toInt_lt, Int64.le_iff_toInt_le, ← Int64.toInt_inj, Int64.reduceToInt, Int32.toInt_toInt64, lg_cmp_ge, lg_cmp_le, lg_cmp_gt, lg_cmp_lt, lg_cmp_eq, Bool.false_eq_true, Bool.true_eq_false, reduceCtorEq, false_iff, true_iff, iff_true, iff_false, and_true, true_and, and_false, false_and, reduceIte, ite_true, ite_false, eq_self] at *)) <;> omega) (by rw [Fm.gi fs11 (q := 84) (k := 119) rfl rfl]; first | assumption | exact Or.inl rfl | exact Or.inr rfl | (((try simp only [vp_in_iff, Int32.lt_iff_toInt_lt, Int32.le_iff_toInt_le, ← Int32.toInt_inj, Int32.reduceToInt, n_1, n_2, n_8, Int32.toNatClampNeg, Int64.lt_iff_toInt_lt, Int64.le_iff_toInt_le, ← Int64.toInt_inj, Int64.reduceToInt, Int32.toInt_toInt64, lg_cmp_ge, lg_cmp_le, lg_cmp_gt, lg_cmp_lt, lg_cmp_eq, Bool.false_eq_true, Bool.true_eq_false, reduceCtorEq, false_iff, true_iff, iff_true, iff_false, and_true, true_and, and_false, false_and, reduceIte, ite_true, ite_false, eq_self] at *)) <;> omega)) (by rw [(Fm.gi fs11 (q := 84) (k := 32) rfl rfl).trans ((Fm.gi fs9 (q := 84) (k := 32) rfl rfl).trans ((Fm.gi fs7 (q := 84) (k := 32) rfl rfl).trans (Fm.gi fs1 (q := 84) (k := 32) rfl rfl)))]; first | assumption | exact Or.inl rfl | exact Or.inr rfl | (((try simp only [vp_in_iff, Int32.lt_iff_toInt_lt, Int32.le_iff_toInt_le, ← Int32.toInt_inj, Int32.reduceToInt, n_1, n_2, n_8, Int32.toNatClampNeg, Int64.lt_iff_toInt_lt, Int64.le_iff_toInt_le, ← Int64.toInt_inj, Int64.reduceToInt, Int32.toInt_toInt64, lg_cmp_ge, lg_cmp_le, lg_cmp_gt, lg_cmp_lt, lg_cmp_eq, Bool.false_eq_true, Bool.true_eq_false, reduceCtorEq, false_iff, true_iff, iff_true, iff_false, and_true, true_and, and_false, false_and, reduceIte, ite_true, ite_false, eq_self] at *)) <;> omega)) (by rw [(Fm.gi fs11 (q := 84) (k := 33) rfl rfl).trans ((Fm.gi fs9 (q := 84) (k := 33) rfl rfl).trans ((Fm.gi fs7 (q := 84) (k := 33) rfl rfl).trans (Fm.gi fs1 (q := 84) (k := 33) rfl rfl)))]; first | assumption | exact Or.inl rfl | exact Or.inr rfl | (((try simp only [vp_in_iff, Int32.lt_iff_toInt_lt, Int32.le_iff_toInt_le, ← Int32.toInt_inj, Int32.reduceToInt, n_1, n_2, n_8, Int32.toNatClampNeg, Int64.lt_iff_toInt_lt, Int64.le_iff_toInt_le, ← Int64.toInt_inj, Int64.reduceToInt, Int32.toInt_toInt64, lg_cmp_ge, lg_cmp_le, lg_cmp_gt, lg_cmp_lt, lg_cmp_eq, Bool.false_eq_true, Bool.true_eq_false, reduceCtorEq, false_iff, true_iff, iff_true, iff_false, and_true, true_and, and_false, false_and, reduceIte, ite_true, ite_false, eq_self] at *)) <;> omega)) (by first | assumption | exact Or.inl rfl | exact Or.inr rfl | (((try simp only [vp_in_iff, Int32.lt_iff_toInt_lt, Int32.le_iff_toInt_le, ← Int32.toInt_inj, Int32.reduceToInt, n_1, n_2, n_8, Int32.toNatClampNeg, Int64.lt_iff_toInt_lt, Int64.le_iff_toInt_le, ← Int64.toInt_inj, Int64.reduceToInt, Int32.toInt_toInt64, lg_cmp_ge, lg_cmp_le, lg_cmp_gt, lg_cmp_lt, lg_cmp_eq, Bool.false_eq_true, Bool.true_eq_false, reduceCtorEq, false_iff, true_iff, iff_true, iff_false, and_true, true_and, and_false, false_and, reduceIte, ite_true, ite_false, eq_self] at *)) <;> omega)) (by first | assumption | exact Or.inl rfl | exact Or.inr rfl | (((try simp only [vp_in_iff, Int32.lt_iff_toInt_lt, Int32.le_iff_toInt_le, ← Int32.toInt_inj, Int32.reduceToInt, n_1, n_2, n_8, Int32.toNatClampNeg, Int64.lt_iff_toInt_lt, Int64.le_iff_toInt_le, ← Int64.toInt_inj, Int64.reduceToInt, Int32.toInt_toInt64, lg_cmp_ge, lg_cmp_le, lg_cmp_gt, lg_cmp_lt, lg_cmp_eq, Bool.false_eq_true, Bool.true_eq_false, reduceCtorEq, false_iff, true_iff, iff_true, iff_false, and_true, true_and, and_false, false_and, reduceIte, ite_true, ite_false, eq_self] at *)) <;> omega)) As11_134 (ar_fm fs11 rfl rfl As9_135) (ar_fm fs11 rfl rfl As9_137) (ar_fm fs11 rfl rfl (ar_fm fs9 rfl rfl (ar_fm fs7 rfl rfl (ar_fm fs1 rfl rfl A_155)))) (ar_fm fs11 rfl rfl (ar_fm fs9 rfl rfl (ar_fm fs7 rfl rfl (ar_fm fs1 rfl rfl A_156)))) (ar_fm fs11 rfl rfl (ar_fm fs9 rfl rfl (ar_fm fs7 rfl rfl (ar_fm fs1 rfl rfl A_173)))) (ar_fm fs11 rfl rfl (ar_fm fs9 rfl rfl (ar_fm fs7 rfl rfl (ar_fm fs1 rfl rfl A_183)))) (ar_fm fs11 rfl rfl (ar_fm fs9 rfl rfl (ar_fm fs7 rfl rfl (ar_fm fs1 rfl rfl A_184)))) (ar_fm fs11 rfl rfl (ar_fm fs9 rfl rfl (ar_fm fs7 rfl rfl (ar_fm fs1 rfl rfl A_185)))) (ar_fm fs11 rfl rfl (ar_fm fs9 rfl rfl (ar_fm fs7 rfl rfl (ar_fm fs1 rfl rfl A_194)))) Ps11_DV Ps11_WKS (CLI_of (fun k => (Fm.gi fs11 (q := 183) (k := k) rfl rfl).trans ((Fm.gi fs9 (q := 183) (k := k) rfl rfl).trans ((Fm.gi fs7 (q := 183) (k := k) rfl rfl).trans (Fm.gi fs1 (q := 183) (k := k) rfl rfl)))) (fun k => (Fm.gi fs11 (q := 185) (k := k) rfl rfl).trans ((Fm.gi fs9 (q := 185) (k := k) rfl rfl).trans ((Fm.gi fs7 (q := 185) (k := k) rfl rfl).trans (Fm.gi fs1 (q := 185) (k := k) rfl rfl)))) (fun k => (Fm.gi fs11 (q := 184) (k := k) rfl rfl).trans ((Fm.gi fs9 (q := 184) (k := k) rfl rfl).trans ((Fm.gi fs7 (q := 184) (k := k) rfl rfl).trans (Fm.gi fs1 (q := 184) (k := k) rfl rfl)))) (fun k => (Fm.gi fs11 (q := 155) (k := k) rfl rfl).trans ((Fm.gi fs9 (q := 155) (k := k) rfl rfl).trans ((Fm.gi fs7 (q := 155) (k := k) rfl rfl).trans (Fm.gi fs1 (q := 155) (k := k) rfl rfl)))) (fun k => (Fm.gi fs11 (q := 156) (k := k) rfl rfl).trans ((Fm.gi fs9 (q := 156) (k := k) rfl rfl).trans ((Fm.gi fs7 (q := 156) (k := k) rfl rfl).trans (Fm.gi fs1 (q := 156) (k := k) rfl rfl)))) P_CLI) (NOK_of (fun k => (Fm.gi fs11 (q := 194) (k := k) rfl rfl).trans ((Fm.gi fs9 (q := 194) (k := k) rfl rfl).trans ((Fm.gi fs7 (q := 194) (k := k) rfl rfl).trans (Fm.gi fs1 (q := 194) (k := k) rfl rfl)))) (fun k => (Fm.gi fs11 (q := 195) (k := k) rfl rfl).trans ((Fm.gi fs9 (q := 195) (k := k) rfl rfl).trans ((Fm.gi fs7 (q := 195) (k := k) rfl rfl).trans (Fm.gi fs1 (q := 195) (k := k) rfl rfl)))) (fun k => (Fm.gi fs11 (q := 196) (k := k) rfl rfl).trans ((Fm.gi fs9 (q := 196) (k := k) rfl rfl).trans ((Fm.gi fs7 (q := 196) (k := k) rfl rfl).trans (Fm.gi fs1 (q := 196) (k := k) rfl rfl)))) (fun k => (Fm.gi fs11 (q := 197) (k := k) rfl rfl).trans ((Fm.gi fs9 (q := 197) (k := k) rfl rfl).trans ((Fm.gi fs7 (q := 197) (k := k) rfl rfl).trans (Fm.gi fs1 (q := 197) (k := k) rfl rfl)))) (fun k => (Fm.gi fs11 (q := 198) (k := k) rfl rfl).trans ((Fm.gi fs9 (q := 198) (k := k) rfl rfl).trans ((Fm.gi fs7 (q := 198) (k := k) rfl rfl).trans (Fm.gi fs1 (q := 198) (k := k) rfl rfl)))) (fun k => (Fm.gi fs11 (q := 183) (k := k) rfl rfl).trans ((Fm.gi fs9 (q := 183) (k := k) rfl rfl).trans ((Fm.gi fs7 (q := 183) (k := k) rfl rfl).trans (Fm.gi fs1 (q := 183) (k := k) rfl rfl)))) P_NOK)) (rfl) rfl rfl (zr (by omega)) mk_X12_judge ly_84 ml_12_988 (Nat.le_of_ble_eq_true rfl) (fun s14 hs14 => ?_)
        obtain ⟨fs14, -⟩ := hs14
        have Fs14 : Fm [106, 107, 108, 109, 110, 112, 120, 121, 123, 124, 125, 126, 127, 128, 129, 130, 131, 132, 133, 134, 135, 136, 137] [0, 119, 129, 131, 156, 157] σ s14 := Fm.tr Fs11 (Fm.wd fs14 rfl rfl)
        refine wa_aload_n (i := 0) rfl rfl ?_
        refine wa_iconst (v := 1) (by decide) ?_
        refine wa_Vi (d9 := d - 1) [.int (bI true)] [] (sp_X12_sortOut G (d := d - 1) (by omega) s14 true (by rw [Fm.gi fs14 (q := 84) (k := 131) rfl rfl]; first | assumption | exact Or.inl rfl | exact Or.inr rfl | (((try simp only [vp_in_iff, Int32.lt_iff_toInt_lt, Int32.le_iff_toInt_le, ← Int32.toInt_inj, Int32.reduceToInt, n_1, n_2, n_8, Int32.toNatClampNeg, Int64.lt_iff_toInt_lt, Int64.le_iff_toInt_le, ← Int64.toInt_inj, Int64.reduceToInt, Int32.toInt_toInt64, lg_cmp_ge, lg_cmp_le, lg_cmp_gt, lg_cmp_lt, lg_cmp_eq, Bool.false_eq_true, Bool.true_eq_false, reduceCtorEq, false_iff, true_iff, iff_true, iff_false, and_true, true_and, and_false, false_and, reduceIte, ite_true, ite_false, eq_self] at *)) <;> omega)) (by rw [Fm.gi fs14 (q := 84) (k := 129) rfl rfl]; first | assumption | exact Or.inl rfl | exact Or.inr rfl | (((try simp only [vp_in_iff, Int32.lt_iff_toInt_lt, Int32.le_iff_toInt_le, ← Int32.toInt_inj, Int32.reduceToInt, n_1, n_2, n_8, Int32.toNatClampNeg, Int64.lt_iff_toInt_lt, Int64.le_iff_toInt_le, ← Int64.toInt_inj, Int64.reduceToInt, Int32.toInt_toInt64, lg_cmp_ge, lg_cmp_le, lg_cmp_gt, lg_cmp_lt, lg_cmp_eq, Bool.false_eq_true, Bool.true_eq_false, reduceCtorEq, false_iff, true_iff, iff_true, iff_false, and_true, true_and, and_false, false_and, reduceIte, ite_true, ite_false, eq_self] at *)) <;> omega)) (ar_fm fs14 rfl rfl (ar_fm fs11 rfl rfl (ar_fm fs9 rfl rfl (ar_fm fs7 rfl rfl (ar_fm fs1 rfl rfl A_109))))) (ar_fm fs14 rfl rfl (ar_fm fs11 rfl rfl (ar_fm fs9 rfl rfl (ar_fm fs7 rfl rfl (ar_fm fs1 rfl rfl A_110))))) (ar_fm fs14 rfl rfl As11_128) (CHA_of (fun k => Fm.gi fs14 (q := 126) (k := k) rfl rfl) (Fm.gi fs14 (q := 84) (k := 129) rfl rfl) Ps11_CHA)) (rfl) rfl rfl (zr (by omega)) mk_X12_sortOut ly_84 ml_12_1057 (Nat.le_of_ble_eq_true rfl) (fun x17 s16 hs16 => ?_)
        obtain ⟨fs16, cx17_1, As16_109, As16_110, Ps16_CHA, -⟩ := pI hs16
        have Fs16 : Fm [106, 107, 108, 109, 110, 112, 120, 121, 123, 124, 125, 126, 127, 128, 129, 130, 131, 132, 133, 134, 135, 136, 137] [0, 119, 129, 131, 156, 157] σ s16 := Fm.tr Fs14 (Fm.wd fs16 rfl rfl)
        refine wa_istore_nD (lv' := [(2, .int x17), (0, .ref 84), (1, .int a0)]) (i := 2) rfl (by decide) rfl ?_
        refine wa_iconst (v := 0) (by decide) ?_
        refine wa_istore_nD (lv' := [(3, .int 0), (2, .int x17), (0, .ref 84), (1, .int a0)]) (i := 3) rfl (by decide) rfl ?_
        refine wa_pick [2, 1, 0] rfl ?_
        have hi20 : ∀ (n9_55 : Nat) (l2 : Int32) (l3 : Int32) (s18 : St), ((Fm [106, 107, 108, 109, 110, 112, 120, 121, 123, 124, 125, 126, 127, 128, 129, 130, 131, 132, 133, 134, 135, 136, 137] [0, 119, 129, 131, 156, 157] σ s18) ∧ (gi s18 84 33 = gi σ 84 33) ∧ (gi s18 84 119 = gi s9 84 119) ∧ (gi s18 84 129 = gi s11 84 129) ∧ (gi s18 84 32 = gi σ 84 32) ∧ (gi s18 84 131 = gi s11 84 131) ∧ (gi s18 84 156 = gi σ 84 156) ∧ (gi s18 84 157 = gi σ 84 157) ∧ (AR ap_109 s18 109) ∧ (AR ap_110 s18 110) ∧ (AR ap_112 s18 112) ∧ (AR ap_128 s18 128) ∧ (AR ap_134 s18 134) ∧ (AR ap_135 s18 135) ∧ (AR ap_136 s18 136) ∧ (AR ap_137 s18 137) ∧ (INW s18) ∧ (WOK s18) ∧ (CHA s18) ∧ (0 ≤ l2.toInt ∧ l2.toInt ≤ 3000) ∧ (0 ≤ l3.toInt ∧ l3.toInt ≤ 3000) ∧ (True)) → (3001 - l3.toInt).toNat = n9_55 → WA G M_X12_own (ZM G M_X12_own d (fun r σ' => ∃ x : Int32, r = some (.int x) ∧ Fm [106, 107, 108, 109, 110, 112, 120, 121, 123, 124, 125, 126, 127, 128, 129, 130, 131, 132, 133, 134, 135, 136, 137] [0, 119, 129, 131, 156, 157] σ σ' ∧ (0 ≤ (gi σ' 84 129).toInt ∧ (gi σ' 84 129).toInt ≤ 3000) ∧ (0 ≤ (gi σ' 84 131).toInt ∧ (gi σ' 84 131).toInt ≤ 16) ∧ (0 ≤ (gi σ' 84 156).toInt ∧ (gi σ' 84 156).toInt ≤ 3000) ∧ (0 ≤ (gi σ' 84 157).toInt ∧ (gi σ' 84 157).toInt ≤ 16) ∧ AR ap_109 σ' 109 ∧ AR ap_110 σ' 110 ∧ AR ap_112 σ' 112 ∧ AR ap_128 σ' 128 ∧ AR ap_134 σ' 134 ∧ AR ap_135 σ' 135 ∧ AR ap_136 σ' 136 ∧ AR ap_137 σ' 137 ∧ INW σ' ∧ WOK σ' ∧ CHA σ' ∧ True)) B_X12_own_55 [(0, .ref 84), (2, .int l2), (3, .int l3)] [] s18 := by
          intro n9_55
          induction n9_55 using Nat.strongRecOn with
          | _ n9_55 ih19 =>
            intro l2 l3 s18 i9 m9_55
            obtain ⟨Fs18, khi20_0, khi20_1, khi20_2, khi20_3, khi20_4, khi20_5, khi20_6, As18_109, As18_110, As18_112, As18_128, As18_134, As18_135, As18_136, As18_137, Ps18_INW, Ps18_WOK, Ps18_CHA, jhi20_0, jhi20_1, -⟩ := i9
            have ul2 := Int32.toInt_lt l2
            have wl2 := Int32.le_toInt l2
            have ul3 := Int32.toInt_lt l3
            have wl3 := Int32.le_toInt l3
            refine wa_iload_n (i := 2) rfl rfl ?_
            refine wa_iload_n (i := 3) rfl rfl ?_
            refine wa_icmp_le o_X12_own_71 (by decide) (fun h21 => ?_) (fun h21 => ?_)
            · refine wa_iconst (v := 0) (by decide) ?_
              refine wa_istoreD (lv' := [(4, .int 0), (0, .ref 84), (2, .int l2), (3, .int l3)]) (by decide) rfl ?_
              refine wa_pick [1, 2, 0] rfl ?_
              have hi24 : ∀ (n9_74 : Nat) (l4 : Int32) (s22 : St), ((Fm [106, 107, 108, 109, 110, 112, 120, 121, 123, 124, 125, 126, 127, 128, 129, 130, 131, 132, 133, 134, 135, 136, 137] [0, 119, 129, 131, 156, 157] σ s22) ∧ (gi s22 84 33 = gi σ 84 33) ∧ (gi s22 84 119 = gi s9 84 119) ∧ (gi s22 84 129 = gi s11 84 129) ∧ (gi s22 84 32 = gi σ 84 32) ∧ (gi s22 84 131 = gi s11 84 131) ∧ (gi s22 84 156 = gi σ 84 156) ∧ (gi s22 84 157 = gi σ 84 157) ∧ (AR ap_109 s22 109) ∧ (AR ap_110 s22 110) ∧ (AR ap_112 s22 112) ∧ (AR ap_128 s22 128) ∧ (AR ap_134 s22 134) ∧ (AR ap_135 s22 135) ∧ (AR ap_136 s22 136) ∧ (AR ap_137 s22 137) ∧ (INW s22) ∧ (WOK s22) ∧ (CHA s22) ∧ (0 ≤ l4.toInt) ∧ (True)) → (2147483647 - l4.toInt).toNat = n9_74 → WA G M_X12_own (ZM G M_X12_own d (fun r σ' => ∃ x : Int32, r = some (.int x) ∧ Fm [106, 107, 108, 109, 110, 112, 120, 121, 123, 124, 125, 126, 127, 128, 129, 130, 131, 132, 133, 134, 135, 136, 137] [0, 119, 129, 131, 156, 157] σ σ' ∧ (0 ≤ (gi σ' 84 129).toInt ∧ (gi σ' 84 129).toInt ≤ 3000) ∧ (0 ≤ (gi σ' 84 131).toInt ∧ (gi σ' 84 131).toInt ≤ 16) ∧ (0 ≤ (gi σ' 84 156).toInt ∧ (gi σ' 84 156).toInt ≤ 3000) ∧ (0 ≤ (gi σ' 84 157).toInt ∧ (gi σ' 84 157).toInt ≤ 16) ∧ AR ap_109 σ' 109 ∧ AR ap_110 σ' 110 ∧ AR ap_112 σ' 112 ∧ AR ap_128 σ' 128 ∧ AR ap_134 σ' 134 ∧ AR ap_135 σ' 135 ∧ AR ap_136 σ' 136 ∧ AR ap_137 σ' 137 ∧ INW σ' ∧ WOK σ' ∧ CHA σ' ∧ True)) B_X12_own_74 [(0, .ref 84), (2, .int l2), (4, .int l4)] [] s22 := by
                intro n9_74
                induction n9_74 using Nat.strongRecOn with
                | _ n9_74 ih23 =>
                  intro l4 s22 i9 m9_74
                  obtain ⟨Fs22, khi24_0, khi24_1, khi24_2, khi24_3, khi24_4, khi24_5, khi24_6, As22_109, As22_110, As22_112, As22_128, As22_134, As22_135, As22_136, As22_137, Ps22_INW, Ps22_WOK, Ps22_CHA, jhi24_0, -⟩ := i9
                  have ul4 := Int32.toInt_lt l4
                  have wl4 := Int32.le_toInt l4
                  refine wa_iload rfl ?_
                  refine wa_iload_n (i := 2) rfl rfl ?_
                  refine wa_icmp_ge o_X12_own_94 (by decide) (fun h25 => ?_) (fun h25 => ?_)
                  · refine wa_aload_n (i := 0) rfl rfl ?_
                    refine wa_getr ck_12 fl_12_385 ly_84 rf_84_153 ?_
                    refine wa_aload_n (i := 0) rfl rfl ?_
                    refine wa_getr ck_12 fl_12_379 ly_84 rf_84_151 ?_
                    refine wa_iconst (v := 0) (by decide) ?_
                    refine wa_iald ly_110 (by ((try simp only [vp_in_iff, Int32.lt_iff_toInt_lt, Int32.le_iff_toInt_le, ← Int32.toInt_inj, Int32.reduceToInt, n_1, n_2, n_8, Int32.toNatClampNeg, Int64.lt_iff_toInt_lt, Int64.le_iff_toInt_le, ← Int64.toInt_inj, Int64.reduceToInt, Int32.toInt_toInt64, lg_cmp_ge, lg_cmp_le, lg_cmp_gt, lg_cmp_lt, lg_cmp_eq, Bool.false_eq_true, Bool.true_eq_false, reduceCtorEq, false_iff, true_iff, iff_true, iff_false, and_true, true_and, and_false, false_and, reduceIte, ite_true, ite_false, eq_self] at *)) <;> omega) ?_
                    refine wa_top (fun v26 hv26 => ?_)
                    have rv26 : 0 ≤ v26.toInt ∧ v26.toInt ≤ 2999 := by rw [← hv26]; exact ar_at As22_110 _
                    clear hv26
                    refine wa_iconst (v := 0) (by decide) ?_
                    refine wa_iast ly_108 (by ((try simp only [vp_in_iff, Int32.lt_iff_toInt_lt, Int32.le_iff_toInt_le, ← Int32.toInt_inj, Int32.reduceToInt, n_1, n_2, n_8, Int32.toNatClampNeg, Int64.lt_iff_toInt_lt, Int64.le_iff_toInt_le, ← Int64.toInt_inj, Int64.reduceToInt, Int32.toInt_toInt64, lg_cmp_ge, lg_cmp_le, lg_cmp_gt, lg_cmp_lt, lg_cmp_eq, Bool.false_eq_true, Bool.true_eq_false, reduceCtorEq, false_iff, true_iff, iff_true, iff_false, and_true, true_and, and_false, false_and, reduceIte, ite_true, ite_false, eq_self] at *)) <;> omega) (fun s27 hs27 => ?_)
                    have Fs27 : Fm [106, 107, 108, 109, 110, 112, 120, 121, 123, 124, 125, 126, 127, 128, 129, 130, 131, 132, 133, 134, 135, 136, 137] [0, 119, 129, 131, 156, 157] σ s27 := by rw [hs27]; exact Fm.si Fs22 rfl
                    have Ns27 := sn_lt hs27 (by ((try simp only [vp_in_iff, Int32.lt_iff_toInt_lt, Int32.le_iff_toInt_le, ← Int32.toInt_inj, Int32.reduceToInt, n_1, n_2, n_8, Int32.toNatClampNeg, Int64.lt_iff_toInt_lt, Int64.le_iff_toInt_le, ← Int64.toInt_inj, Int64.reduceToInt, Int32.toInt_toInt64, lg_cmp_ge, lg_cmp_le, lg_cmp_gt, lg_cmp_lt, lg_cmp_eq, Bool.false_eq_true, Bool.true_eq_false, reduceCtorEq, false_iff, true_iff, iff_true, iff_false, and_true, true_and, and_false, false_and, reduceIte, ite_true, ite_false, eq_self] at *)) <;> omega) (by decide)
                    refine wa_aload_n (i := 0) rfl rfl ?_
                    refine wa_getr ck_12 fl_12_373 ly_84 rf_84_148 ?_
                    refine wa_iconst (v := 0) (by decide) ?_
                    refine wa_iconst (v := 0) (by decide) ?_
                    refine wa_iast ly_112 (by ((try simp only [vp_in_iff, Int32.lt_iff_toInt_lt, Int32.le_iff_toInt_le, ← Int32.toInt_inj, Int32.reduceToInt, n_1, n_2, n_8, Int32.toNatClampNeg, Int64.lt_iff_toInt_lt, Int64.le_iff_toInt_le, ← Int64.toInt_inj, Int64.reduceToInt, Int32.toInt_toInt64, lg_cmp_ge, lg_cmp_le, lg_cmp_gt, lg_cmp_lt, lg_cmp_eq, Bool.false_eq_true, Bool.true_eq_false, reduceCtorEq, false_iff, true_iff, iff_true, iff_false, and_true, true_and, and_false, false_and, reduceIte, ite_true, ite_false, eq_self] at *)) <;> omega) (fun s28 hs28 => ?_)
                    have Fs28 : Fm [106, 107, 108, 109, 110, 112, 120, 121, 123, 124, 125, 126, 127, 128, 129, 130, 131, 132, 133, 134, 135, 136, 137] [0, 119, 129, 131, 156, 157] σ s28 := by rw [hs28]; exact Fm.si Fs27 rfl
                    have Vs28 : 0 ≤ (0 : Int32).toInt ∧ (0 : Int32).toInt ≤ 2999 := by ((try simp only [vp_in_iff, Int32.lt_iff_toInt_lt, Int32.le_iff_toInt_le, ← Int32.toInt_inj, Int32.reduceToInt, n_1, n_2, n_8, Int32.toNatClampNeg, Int64.lt_iff_toInt_lt, Int64.le_iff_toInt_le, ← Int64.toInt_inj, Int64.reduceToInt, Int32.toInt_toInt64, lg_cmp_ge, lg_cmp_le, lg_cmp_gt, lg_cmp_lt, lg_cmp_eq, Bool.false_eq_true, Bool.true_eq_false, reduceCtorEq, false_iff, true_iff, iff_true, iff_false, and_true, true_and, and_false, false_and, reduceIte, ite_true, ite_false, eq_self] at *)) <;> omega
                    have Ms28 := sn_ne hs28 (by decide)
                    refine wa_aload_n (i := 0) rfl rfl ?_
                    refine wa_iconst (v := 1) (by decide) ?_
                    refine wa_puti ck_12 fl_12_1061 ly_84 (fun s29 hs29 => ?_)
                    have Fs29 : Fm [106, 107, 108, 109, 110, 112, 120, 121, 123, 124, 125, 126, 127, 128, 129, 130, 131, 132, 133, 134, 135, 136, 137] [0, 119, 129, 131, 156, 157] σ s29 := by rw [hs29]; exact Fm.si Fs28 rfl
                    have Ls29 := sn_ne hs29 (by decide)
                    refine wa_aload_n (i := 0) rfl rfl ?_
                    refine wa_aload_n (i := 0) rfl rfl ?_
                    refine wa_geti ck_12 fl_12_960 ly_84 ?_
                    refine wa_rw ((nxk_gi_si hs29 (by decide)).trans ((nxq_gi_si hs28 (by decide)).trans ((nxq_gi_si hs27 (by decide)).trans (khi24_4)))) ?_
                    refine wa_puti ck_12 fl_12_1064 ly_84 (fun s30 hs30 => ?_)
                    have Fs30 : Fm [106, 107, 108, 109, 110, 112, 120, 121, 123, 124, 125, 126, 127, 128, 129, 130, 131, 132, 133, 134, 135, 136, 137] [0, 119, 129, 131, 156, 157] σ s30 := by rw [hs30]; exact Fm.si Fs29 rfl
                    have Ks30 := sn_ne hs30 (by decide)
                    refine wa_iconst (v := 0) (by decide) ?_
                    refine wa_istoreD (lv' := [(4, .int 0), (0, .ref 84), (2, .int l2)]) (by decide) rfl ?_
                    refine wa_pick [1, 0] rfl ?_
                    have hi33 : ∀ (n9_129 : Nat) (l4 : Int32) (s31 : St), ((Fm [106, 107, 108, 109, 110, 112, 120, 121, 123, 124, 125, 126, 127, 128, 129, 130, 131, 132, 133, 134, 135, 136, 137] [0, 119, 129, 131, 156, 157] σ s31) ∧ (gi s31 84 33 = gi σ 84 33) ∧ (gi s31 84 119 = gi s9 84 119) ∧ (gi s31 84 129 = gi s11 84 129) ∧ (gi s31 84 32 = gi σ 84 32) ∧ (gi s31 84 131 = gi s11 84 131) ∧ (gi s31 84 157 = (gi s11 84 131)) ∧ (AR ap_109 s31 109) ∧ (AR ap_110 s31 110) ∧ (AR ap_112 s31 112) ∧ (AR ap_128 s31 128) ∧ (AR ap_134 s31 134) ∧ (AR ap_135 s31 135) ∧ (AR ap_136 s31 136) ∧ (AR ap_137 s31 137) ∧ (INW s31) ∧ (WOK s31) ∧ (CHA s31) ∧ (0 ≤ l4.toInt) ∧ (1 ≤ (gi s31 84 156).toInt) ∧ ((gi s31 84 156).toInt + (SN s31 : Int) ≤ 3000) ∧ (0 ≤ (gi s31 84 156).toInt ∧ (gi s31 84 156).toInt ≤ 3000) ∧ (True)) → (2147483647 - l4.toInt).toNat = n9_129 → WA G M_X12_own (ZM G M_X12_own d (fun r σ' => ∃ x : Int32, r = some (.int x) ∧ Fm [106, 107, 108, 109, 110, 112, 120, 121, 123, 124, 125, 126, 127, 128, 129, 130, 131, 132, 133, 134, 135, 136, 137] [0, 119, 129, 131, 156, 157] σ σ' ∧ (0 ≤ (gi σ' 84 129).toInt ∧ (gi σ' 84 129).toInt ≤ 3000) ∧ (0 ≤ (gi σ' 84 131).toInt ∧ (gi σ' 84 131).toInt ≤ 16) ∧ (0 ≤ (gi σ' 84 156).toInt ∧ (gi σ' 84 156).toInt ≤ 3000) ∧ (0 ≤ (gi σ' 84 157).toInt ∧ (gi σ' 84 157).toInt ≤ 16) ∧ AR ap_109 σ' 109 ∧ AR ap_110 σ' 110 ∧ AR ap_112 σ' 112 ∧ AR ap_128 σ' 128 ∧ AR ap_134 σ' 134 ∧ AR ap_135 σ' 135 ∧ AR ap_136 σ' 136 ∧ AR ap_137 σ' 137 ∧ INW σ' ∧ WOK σ' ∧ CHA σ' ∧ True)) B_X12_own_129 [(0, .ref 84), (4, .int l4)] [] s31 := by
                      intro n9_129
                      induction n9_129 using Nat.strongRecOn with
                      | _ n9_129 ih32 =>
                        intro l4 s31 i9 m9_129
                        obtain ⟨Fs31, khi33_0, khi33_1, khi33_2, khi33_3, khi33_4, khi33_5, As31_109, As31_110, As31_112, As31_128, As31_134, As31_135, As31_136, As31_137, Ps31_INW, Ps31_WOK, Ps31_CHA, jhi33_0, jhi33_1, jhi33_2, jhi33_3, -⟩ := i9
                        have ul4 := Int32.toInt_lt l4
                        have wl4 := Int32.le_toInt l4
                        refine wa_iload rfl ?_
                        refine wa_aload_n (i := 0) rfl rfl ?_
                        refine wa_geti ck_12 fl_12_1061 ly_84 ?_
                        refine wa_icmp_ge o_X12_own_279 (by decide) (fun h34 => ?_) (fun h34 => ?_)
                        · refine wa_aload_n (i := 0) rfl rfl ?_
                          refine wa_geti ck_12 fl_12_1061 ly_84 ?_
                          refine wa_ireturn rfl rfl ?_
                          exact ⟨_, rfl, Fs31, (by rw [khi33_2]; first | assumption | (((try simp only [vp_in_iff, Int32.lt_iff_toInt_lt, Int32.le_iff_toInt_le, ← Int32.toInt_inj, Int32.reduceToInt, n_1, n_2, n_8, Int32.toNatClampNeg, Int64.lt_iff_toInt_lt, Int64.le_iff_toInt_le, ← Int64.toInt_inj, Int64.reduceToInt, Int32.toInt_toInt64, lg_cmp_ge, lg_cmp_le, lg_cmp_gt, lg_cmp_lt, lg_cmp_eq, Bool.false_eq_true, Bool.true_eq_false, reduceCtorEq, false_iff, true_iff, iff_true, iff_false, and_true, true_and, and_false, false_and, reduceIte, ite_true, ite_false, eq_self] at *)) <;> omega)), (by rw [khi33_4]; first | assumption | (((try simp only [vp_in_iff, Int32.lt_iff_toInt_lt, Int32.le_iff_toInt_le, ← Int32.toInt_inj, Int32.reduceToInt, n_1, n_2, n_8, Int32.toNatClampNeg, Int64.lt_iff_toInt_lt, Int64.le_iff_toInt_le, ← Int64.toInt_inj, Int64.reduceToInt, Int32.toInt_toInt64, lg_cmp_ge, lg_cmp_le, lg_cmp_gt, lg_cmp_lt, lg_cmp_eq, Bool.false_eq_true, Bool.true_eq_false, reduceCtorEq, false_iff, true_iff, iff_true, iff_false, and_true, true_and, and_false, false_and, reduceIte, ite_true, ite_false, eq_self] at *)) <;> omega)), (by first | assumption | (((try simp only [vp_in_iff, Int32.lt_iff_toInt_lt, Int32.le_iff_toInt_le, ← Int32.toInt_inj, Int32.reduceToInt, n_1, n_2, n_8, Int32.toNatClampNeg, Int64.lt_iff_toInt_lt, Int64.le_iff_toInt_le, ← Int64.toInt_inj, Int64.reduceToInt, Int32.toInt_toInt64, lg_cmp_ge, lg_cmp_le, lg_cmp_gt, lg_cmp_lt, lg_cmp_eq, Bool.false_eq_true, Bool.true_eq_false, reduceCtorEq, false_iff, true_iff, iff_true, iff_false, and_true, true_and, and_false, false_and, reduceIte, ite_true, ite_false, eq_self] at *)) <;> omega)), (by rw [khi33_5]; first | assumption | (((try simp only [vp_in_iff, Int32.lt_iff_toInt_lt, Int32.le_iff_toInt_le, ← Int32.toInt_inj, Int32.reduceToInt, n_1, n_2, n_8, Int32.toNatClampNeg, Int64.lt_iff_toInt_lt, Int64.le_iff_toInt_le, ← Int64.toInt_inj, Int64.reduceToInt, Int32.toInt_toInt64, lg_cmp_ge, lg_cmp_le, lg_cmp_gt, lg_cmp_lt, lg_cmp_eq, Bool.false_eq_true, Bool.true_eq_false, reduceCtorEq, false_iff, true_iff, iff_true, iff_false, and_true, true_and, and_false, false_and, reduceIte, ite_true, ite_false, eq_self] at *)) <;> omega)), As31_109, As31_110, As31_112, As31_128, As31_134, As31_135, As31_136, As31_137, Ps31_INW, Ps31_WOK, Ps31_CHA, trivial⟩
                        · have mh34 := nle_mx h34
                          refine wa_aload_n (i := 0) rfl rfl ?_
                          refine wa_getr ck_12 fl_12_391 ly_84 rf_84_155 ?_
                          refine wa_iload rfl ?_
                          refine wa_aload_n (i := 0) rfl rfl ?_
                          refine wa_getr ck_12 fl_12_334 ly_84 rf_84_132 ?_
                          refine wa_aload_n (i := 0) rfl rfl ?_
                          refine wa_getr ck_12 fl_12_373 ly_84 rf_84_148 ?_
                          refine wa_iload rfl ?_
                          refine wa_iald ly_112 (by ((try simp only [vp_in_iff, Int32.lt_iff_toInt_lt, Int32.le_iff_toInt_le, ← Int32.toInt_inj, Int32.reduceToInt, n_1, n_2, n_8, Int32.toNatClampNeg, Int64.lt_iff_toInt_lt, Int64.le_iff_toInt_le, ← Int64.toInt_inj, Int64.reduceToInt, Int32.toInt_toInt64, lg_cmp_ge, lg_cmp_le, lg_cmp_gt, lg_cmp_lt, lg_cmp_eq, Bool.false_eq_true, Bool.true_eq_false, reduceCtorEq, false_iff, true_iff, iff_true, iff_false, and_true, true_and, and_false, false_and, reduceIte, ite_true, ite_false, eq_self] at *)) <;> omega) ?_
                          refine wa_top (fun v35 hv35 => ?_)
                          have rv35 : 0 ≤ v35.toInt ∧ v35.toInt ≤ 2999 := by rw [← hv35]; exact ar_at As31_112 _
                          clear hv35
                          refine wa_iald ly_124 (by ((try simp only [vp_in_iff, Int32.lt_iff_toInt_lt, Int32.le_iff_toInt_le, ← Int32.toInt_inj, Int32.reduceToInt, n_1, n_2, n_8, Int32.toNatClampNeg, Int64.lt_iff_toInt_lt, Int64.le_iff_toInt_le, ← Int64.toInt_inj, Int64.reduceToInt, Int32.toInt_toInt64, lg_cmp_ge, lg_cmp_le, lg_cmp_gt, lg_cmp_lt, lg_cmp_eq, Bool.false_eq_true, Bool.true_eq_false, reduceCtorEq, false_iff, true_iff, iff_true, iff_false, and_true, true_and, and_false, false_and, reduceIte, ite_true, ite_false, eq_self] at *)) <;> omega) ?_
                          refine wa_iast ly_106 (by ((try simp only [vp_in_iff, Int32.lt_iff_toInt_lt, Int32.le_iff_toInt_le, ← Int32.toInt_inj, Int32.reduceToInt, n_1, n_2, n_8, Int32.toNatClampNeg, Int64.lt_iff_toInt_lt, Int64.le_iff_toInt_le, ← Int64.toInt_inj, Int64.reduceToInt, Int32.toInt_toInt64, lg_cmp_ge, lg_cmp_le, lg_cmp_gt, lg_cmp_lt, lg_cmp_eq, Bool.false_eq_true, Bool.true_eq_false, reduceCtorEq, false_iff, true_iff, iff_true, iff_false, and_true, true_and, and_false, false_and, reduceIte, ite_true, ite_false, eq_self] at *)) <;> omega) (fun s36 hs36 => ?_)
                          have Fs36 : Fm [106, 107, 108, 109, 110, 112, 120, 121, 123, 124, 125, 126, 127, 128, 129, 130, 131, 132, 133, 134, 135, 136, 137] [0, 119, 129, 131, 156, 157] σ s36 := by rw [hs36]; exact Fm.si Fs31 rfl
                          refine wa_iconst (v := 0) (by decide) ?_
                          refine wa_istoreD (lv' := [(5, .int 0), (0, .ref 84), (4, .int l4)]) (by decide) rfl ?_
                          refine wa_pick [1, 2, 0] rfl ?_
                          have hi39 : ∀ (n9_160 : Nat) (l5 : Int32) (s37 : St), ((Fm [106, 107, 108, 109, 110, 112, 120, 121, 123, 124, 125, 126, 127, 128, 129, 130, 131, 132, 133, 134, 135, 136, 137] [0, 119, 129, 131, 156, 157] σ s37) ∧ (gi s37 84 33 = gi σ 84 33) ∧ (gi s37 84 119 = gi s9 84 119) ∧ (gi s37 84 129 = gi s11 84 129) ∧ (gi s37 84 32 = gi σ 84 32) ∧ (gi s37 84 131 = gi s11 84 131) ∧ (gi s37 84 157 = (gi s11 84 131)) ∧ (AR ap_109 s37 109) ∧ (AR ap_110 s37 110) ∧ (AR ap_112 s37 112) ∧ (AR ap_128 s37 128) ∧ (AR ap_134 s37 134) ∧ (AR ap_135 s37 135) ∧ (AR ap_136 s37 136) ∧ (AR ap_137 s37 137) ∧ (INW s37) ∧ (WOK s37) ∧ (CHA s37) ∧ (0 ≤ l5.toInt) ∧ (1 ≤ (gi s37 84 156).toInt) ∧ ((gi s37 84 156).toInt + (SN s37 : Int) ≤ 3000) ∧ (0 ≤ (gi s37 84 156).toInt ∧ (gi s37 84 156).toInt ≤ 3000) ∧ (True)) → (2147483647 - l5.toInt).toNat = n9_160 → WA G M_X12_own (ZM G M_X12_own d (fun r σ' => ∃ x : Int32, r = some (.int x) ∧ Fm [106, 107, 108, 109, 110, 112, 120, 121, 123, 124, 125, 126, 127, 128, 129, 130, 131, 132, 133, 134, 135, 136, 137] [0, 119, 129, 131, 156, 157] σ σ' ∧ (0 ≤ (gi σ' 84 129).toInt ∧ (gi σ' 84 129).toInt ≤ 3000) ∧ (0 ≤ (gi σ' 84 131).toInt ∧ (gi σ' 84 131).toInt ≤ 16) ∧ (0 ≤ (gi σ' 84 156).toInt ∧ (gi σ' 84 156).toInt ≤ 3000) ∧ (0 ≤ (gi σ' 84 157).toInt ∧ (gi σ' 84 157).toInt ≤ 16) ∧ AR ap_109 σ' 109 ∧ AR ap_110 σ' 110 ∧ AR ap_112 σ' 112 ∧ AR ap_128 σ' 128 ∧ AR ap_134 σ' 134 ∧ AR ap_135 σ' 135 ∧ AR ap_136 σ' 136 ∧ AR ap_137 σ' 137 ∧ INW σ' ∧ WOK σ' ∧ CHA σ' ∧ True)) B_X12_own_160 [(0, .ref 84), (4, .int l4), (5, .int l5)] [] s37 := by
                            intro n9_160
                            induction n9_160 using Nat.strongRecOn with
                            | _ n9_160 ih38 =>
                              intro l5 s37 i9 m9_160
                              obtain ⟨Fs37, khi39_0, khi39_1, khi39_2, khi39_3, khi39_4, khi39_5, As37_109, As37_110, As37_112, As37_128, As37_134, As37_135, As37_136, As37_137, Ps37_INW, Ps37_WOK, Ps37_CHA, jhi39_0, jhi39_1, jhi39_2, jhi39_3, -⟩ := i9
                              have ul5 := Int32.toInt_lt l5
                              have wl5 := Int32.le_toInt l5
                              refine wa_iload rfl ?_
                              refine wa_aload_n (i := 0) rfl rfl ?_
                              refine wa_geti ck_12 fl_12_960 ly_84 ?_
                              refine wa_rw (khi39_4) ?_
                              refine wa_icmp_ge o_X12_own_273 (by decide) (fun h40 => ?_) (fun h40 => ?_)
                              · refine wa_iinc (v := (1)) (lv' := fun y41 => [(4, .int y41), (0, .ref 84), (5, .int l5)]) (by decide) rfl (by decide) (fun _ => rfl) (fun y41 hy41 => ?_)
                                have ty41 := i_addT hy41.symm
                                clear hy41
                                refine wa_goto o_X12_own_129 (by decide) ?_
                                refine wa_pick [1, 0] rfl ?_
                                exact ih32 _ (by ((try simp only [vp_in_iff, Int32.lt_iff_toInt_lt, Int32.le_iff_toInt_le, ← Int32.toInt_inj, Int32.reduceToInt, n_1, n_2, n_8, Int32.toNatClampNeg, Int64.lt_iff_toInt_lt, Int64.le_iff_toInt_le, ← Int64.toInt_inj, Int64.reduceToInt, Int32.toInt_toInt64, lg_cmp_ge, lg_cmp_le, lg_cmp_gt, lg_cmp_lt, lg_cmp_eq, Bool.false_eq_true, Bool.true_eq_false, reduceCtorEq, false_iff, true_iff, iff_true, iff_false, and_true, true_and, and_false, false_and, reduceIte, ite_true, ite_false, eq_self] at *)) <;> omega) _ _ ⟨Fs37, (khi39_0), (khi39_1), (khi39_2), (khi39_3), (khi39_4), (khi39_5), As37_109, As37_110, As37_112, As37_128, As37_134, As37_135, As37_136, As37_137, Ps37_INW, Ps37_WOK, Ps37_CHA, (by ((try simp only [vp_in_iff, Int32.lt_iff_toInt_lt, Int32.le_iff_toInt_le, ← Int32.toInt_inj, Int32.reduceToInt, n_1, n_2, n_8, Int32.toNatClampNeg, Int64.lt_iff_toInt_lt, Int64.le_iff_toInt_le, ← Int64.toInt_inj, Int64.reduceToInt, Int32.toInt_toInt64, lg_cmp_ge, lg_cmp_le, lg_cmp_gt, lg_cmp_lt, lg_cmp_eq, Bool.false_eq_true, Bool.true_eq_false, reduceCtorEq, false_iff, true_iff, iff_true, iff_false, and_true, true_and, and_false, false_and, reduceIte, ite_true, ite_false, eq_self] at *)) <;> omega), (by first | assumption | (((try simp only [vp_in_iff, Int32.lt_iff_toInt_lt, Int32.le_iff_toInt_le, ← Int32.toInt_inj, Int32.reduceToInt, n_1, n_2, n_8, Int32.toNatClampNeg, Int64.lt_iff_toInt_lt, Int64.le_iff_toInt_le, ← Int64.toInt_inj, Int64.reduceToInt, Int32.toInt_toInt64, lg_cmp_ge, lg_cmp_le, lg_cmp_gt, lg_cmp_lt, lg_cmp_eq, Bool.false_eq_true, Bool.true_eq_false, reduceCtorEq, false_iff, true_iff, iff_true, iff_false, and_true, true_and, and_false, false_and, reduceIte, ite_true, ite_false, eq_self] at *)) <;> omega)), (by first | ((try rw [rfl]); (have e1 := sn_ne hs37 (by decide); have e2 := sn_ne hs36 (by decide); ((try simp only [vp_in_iff, Int32.lt_iff_toInt_lt, Int32.le_iff_toInt_le, ← Int32.toInt_inj, Int32.reduceToInt, n_1, n_2, n_8, Int32.toNatClampNeg, Int64.lt_iff_toInt_lt, Int64.le_iff_toInt_le, ← Int64.toInt_inj, Int64.reduceToInt, Int32.toInt_toInt64, lg_cmp_ge, lg_cmp_le, lg_cmp_gt, lg_cmp_lt, lg_cmp_eq, Bool.false_eq_true, Bool.true_eq_false, reduceCtorEq, false_iff, true_iff, iff_true, iff_false, and_true, true_and, and_false, false_and, reduceIte, ite_true, ite_false, eq_self] at *)) <;> omega)) | ((try rw [rfl]); (have e1 := sn_ne hs37 (by decide); ((try simp only [vp_in_iff, Int32.lt_iff_toInt_lt, Int32.le_iff_toInt_le, ← Int32.toInt_inj, Int32.reduceToInt, n_1, n_2, n_8, Int32.toNatClampNeg, Int64.lt_iff_toInt_lt, Int64.le_iff_toInt_le, ← Int64.toInt_inj, Int64.reduceToInt, Int32.toInt_toInt64, lg_cmp_ge, lg_cmp_le, lg_cmp_gt, lg_cmp_lt, lg_cmp_eq, Bool.false_eq_true, Bool.true_eq_false, reduceCtorEq, false_iff, true_iff, iff_true, iff_false, and_true, true_and, and_false, false_and, reduceIte, ite_true, ite_false, eq_self] at *)) <;> omega)) | ((try rw [rfl]); ((try simp only [vp_in_iff, Int32.lt_iff_toInt_lt, Int32.le_iff_toInt_le, ← Int32.toInt_inj, Int32.reduceToInt, n_1, n_2, n_8, Int32.toNatClampNeg, Int64.lt_iff_toInt_lt, Int64.le_iff_toInt_le, ← Int64.toInt_inj, Int64.reduceToInt, Int32.toInt_toInt64, lg_cmp_ge, lg_cmp_le, lg_cmp_gt, lg_cmp_lt, lg_cmp_eq, Bool.false_eq_true, Bool.true_eq_false, reduceCtorEq, false_iff, true_iff, iff_true, iff_false, and_true, true_and, and_false, false_and, reduceIte, ite_true, ite_false, eq_self] at *)) <;> omega)), (by first | assumption | (((try simp only [vp_in_iff, Int32.lt_iff_toInt_lt, Int32.le_iff_toInt_le, ← Int32.toInt_inj, Int32.reduceToInt, n_1, n_2, n_8, Int32.toNatClampNeg, Int64.lt_iff_toInt_lt, Int64.le_iff_toInt_le, ← Int64.toInt_inj, Int64.reduceToInt, Int32.toInt_toInt64, lg_cmp_ge, lg_cmp_le, lg_cmp_gt, lg_cmp_lt, lg_cmp_eq, Bool.false_eq_true, Bool.true_eq_false, reduceCtorEq, false_iff, true_iff, iff_true, iff_false, and_true, true_and, and_false, false_and, reduceIte, ite_true, ite_false, eq_self] at *)) <;> omega)), trivial⟩ rfl
                              · have mh40 := nle_mx h40
                                refine wa_aload_n (i := 0) rfl rfl ?_
                                refine wa_getr ck_12 fl_12_321 ly_84 rf_84_126 ?_
                                refine wa_bipush (v := 16) (by decide) ?_
                                refine wa_aload_n (i := 0) rfl rfl ?_
                                refine wa_getr ck_12 fl_12_373 ly_84 rf_84_148 ?_
                                refine wa_iload rfl ?_
                                refine wa_iald ly_112 (by ((try simp only [vp_in_iff, Int32.lt_iff_toInt_lt, Int32.le_iff_toInt_le, ← Int32.toInt_inj, Int32.reduceToInt, n_1, n_2, n_8, Int32.toNatClampNeg, Int64.lt_iff_toInt_lt, Int64.le_iff_toInt_le, ← Int64.toInt_inj, Int64.reduceToInt, Int32.toInt_toInt64, lg_cmp_ge, lg_cmp_le, lg_cmp_gt, lg_cmp_lt, lg_cmp_eq, Bool.false_eq_true, Bool.true_eq_false, reduceCtorEq, false_iff, true_iff, iff_true, iff_false, and_true, true_and, and_false, false_and, reduceIte, ite_true, ite_false, eq_self] at *)) <;> omega) ?_
                                refine wa_top (fun v42 hv42 => ?_)
                                have rv42 : 0 ≤ v42.toInt ∧ v42.toInt ≤ 2999 := by rw [← hv42]; exact ar_at As37_112 _
                                clear hv42
                                refine wa_imul ?_
                                refine wa_top (fun v43 hv43 => ?_)
                                have tv43 := i_mulT hv43
                                clear hv43
                                refine wa_iload rfl ?_
                                refine wa_iadd ?_
                                refine wa_top (fun v44 hv44 => ?_)
                                have tv44 := i_addT hv44
                                clear hv44
                                refine wa_iald ly_128 (by ((try simp only [vp_in_iff, Int32.lt_iff_toInt_lt, Int32.le_iff_toInt_le, ← Int32.toInt_inj, Int32.reduceToInt, n_1, n_2, n_8, Int32.toNatClampNeg, Int64.lt_iff_toInt_lt, Int64.le_iff_toInt_le, ← Int64.toInt_inj, Int64.reduceToInt, Int32.toInt_toInt64, lg_cmp_ge, lg_cmp_le, lg_cmp_gt, lg_cmp_lt, lg_cmp_eq, Bool.false_eq_true, Bool.true_eq_false, reduceCtorEq, false_iff, true_iff, iff_true, iff_false, and_true, true_and, and_false, false_and, reduceIte, ite_true, ite_false, eq_self] at *)) <;> omega) ?_
                                refine wa_top (fun v45 hv45 => ?_)
                                have rv45 : 0 ≤ v45.toInt ∧ v45.toInt ≤ 2999 := by rw [← hv45]; exact ar_at As37_128 _
                                clear hv45
                                refine wa_istoreD (lv' := [(6, .int v45), (0, .ref 84), (4, .int l4), (5, .int l5)]) (by decide) rfl ?_
                                refine wa_aload_n (i := 0) rfl rfl ?_
                                refine wa_getr ck_12 fl_12_385 ly_84 rf_84_153 ?_
                                refine wa_aload_n (i := 0) rfl rfl ?_
                                refine wa_getr ck_12 fl_12_379 ly_84 rf_84_151 ?_
                                refine wa_iload rfl ?_
                                refine wa_iald ly_110 (by ((try simp only [vp_in_iff, Int32.lt_iff_toInt_lt, Int32.le_iff_toInt_le, ← Int32.toInt_inj, Int32.reduceToInt, n_1, n_2, n_8, Int32.toNatClampNeg, Int64.lt_iff_toInt_lt, Int64.le_iff_toInt_le, ← Int64.toInt_inj, Int64.reduceToInt, Int32.toInt_toInt64, lg_cmp_ge, lg_cmp_le, lg_cmp_gt, lg_cmp_lt, lg_cmp_eq, Bool.false_eq_true, Bool.true_eq_false, reduceCtorEq, false_iff, true_iff, iff_true, iff_false, and_true, true_and, and_false, false_and, reduceIte, ite_true, ite_false, eq_self] at *)) <;> omega) ?_
                                refine wa_top (fun v46 hv46 => ?_)
                                have rv46 : 0 ≤ v46.toInt ∧ v46.toInt ≤ 2999 := by rw [← hv46]; exact ar_at As37_110 _
                                clear hv46
                                refine wa_iald ly_108 (by ((try simp only [vp_in_iff, Int32.lt_iff_toInt_lt, Int32.le_iff_toInt_le, ← Int32.toInt_inj, Int32.reduceToInt, n_1, n_2, n_8, Int32.toNatClampNeg, Int64.lt_iff_toInt_lt, Int64.le_iff_toInt_le, ← Int64.toInt_inj, Int64.reduceToInt, Int32.toInt_toInt64, lg_cmp_ge, lg_cmp_le, lg_cmp_gt, lg_cmp_lt, lg_cmp_eq, Bool.false_eq_true, Bool.true_eq_false, reduceCtorEq, false_iff, true_iff, iff_true, iff_false, and_true, true_and, and_false, false_and, reduceIte, ite_true, ite_false, eq_self] at *)) <;> omega) ?_
                                refine wa_top (fun v47 hv47 => ?_)
                                have qv47 := hv47
                                clear hv47
                                refine wa_iconst (v := (-1)) (by decide) ?_
                                refine wa_icmp_ne o_X12_own_242 (by decide) (fun h48 => ?_) (fun h48 => ?_)
                                · refine wa_aload_n (i := 0) rfl rfl ?_
                                  refine wa_getr ck_12 fl_12_388 ly_84 rf_84_154 ?_
                                  refine wa_bipush (v := 16) (by decide) ?_
                                  refine wa_iload rfl ?_
                                  refine wa_imul ?_
                                  refine wa_top (fun v49 hv49 => ?_)
                                  have tv49 := i_mulT hv49
                                  clear hv49
                                  refine wa_iload rfl ?_
                                  refine wa_iadd ?_
                                  refine wa_top (fun v50 hv50 => ?_)
                                  have tv50 := i_addT hv50
                                  clear hv50
                                  refine wa_aload_n (i := 0) rfl rfl ?_
                                  refine wa_getr ck_12 fl_12_385 ly_84 rf_84_153 ?_
                                  refine wa_aload_n (i := 0) rfl rfl ?_
                                  refine wa_getr ck_12 fl_12_379 ly_84 rf_84_151 ?_
                                  refine wa_iload rfl ?_
                                  refine wa_iald ly_110 (by ((try simp only [vp_in_iff, Int32.lt_iff_toInt_lt, Int32.le_iff_toInt_le, ← Int32.toInt_inj, Int32.reduceToInt, n_1, n_2, n_8, Int32.toNatClampNeg, Int64.lt_iff_toInt_lt, Int64.le_iff_toInt_le, ← Int64.toInt_inj, Int64.reduceToInt, Int32.toInt_toInt64, lg_cmp_ge, lg_cmp_le, lg_cmp_gt, lg_cmp_lt, lg_cmp_eq, Bool.false_eq_true, Bool.true_eq_false, reduceCtorEq, false_iff, true_iff, iff_true, iff_false, and_true, true_and, and_false, false_and, reduceIte, ite_true, ite_false, eq_self] at *)) <;> omega) ?_
                                  refine wa_top (fun v51 hv51 => ?_)
                                  have rv51 : 0 ≤ v51.toInt ∧ v51.toInt ≤ 2999 := by rw [← hv51]; exact ar_at As37_110 _
                                  clear hv51
                                  refine wa_iald ly_108 (by ((try simp only [vp_in_iff, Int32.lt_iff_toInt_lt, Int32.le_iff_toInt_le, ← Int32.toInt_inj, Int32.reduceToInt, n_1, n_2, n_8, Int32.toNatClampNeg, Int64.lt_iff_toInt_lt, Int64.le_iff_toInt_le, ← Int64.toInt_inj, Int64.reduceToInt, Int32.toInt_toInt64, lg_cmp_ge, lg_cmp_le, lg_cmp_gt, lg_cmp_lt, lg_cmp_eq, Bool.false_eq_true, Bool.true_eq_false, reduceCtorEq, false_iff, true_iff, iff_true, iff_false, and_true, true_and, and_false, false_and, reduceIte, ite_true, ite_false, eq_self] at *)) <;> omega) ?_
                                  refine wa_top (fun v52 hv52 => ?_)
                                  have qv52 := hv52
                                  clear hv52
                                  refine wa_iast ly_107 (by ((try simp only [vp_in_iff, Int32.lt_iff_toInt_lt, Int32.le_iff_toInt_le, ← Int32.toInt_inj, Int32.reduceToInt, n_1, n_2, n_8, Int32.toNatClampNeg, Int64.lt_iff_toInt_lt, Int64.le_iff_toInt_le, ← Int64.toInt_inj, Int64.reduceToInt, Int32.toInt_toInt64, lg_cmp_ge, lg_cmp_le, lg_cmp_gt, lg_cmp_lt, lg_cmp_eq, Bool.false_eq_true, Bool.true_eq_false, reduceCtorEq, false_iff, true_iff, iff_true, iff_false, and_true, true_and, and_false, false_and, reduceIte, ite_true, ite_false, eq_self] at *)) <;> omega) (fun s53 hs53 => ?_)
                                  have Fs53 : Fm [106, 107, 108, 109, 110, 112, 120, 121, 123, 124, 125, 126, 127, 128, 129, 130, 131, 132, 133, 134, 135, 136, 137] [0, 119, 129, 131, 156, 157] σ s53 := by rw [hs53]; exact Fm.si Fs37 rfl
                                  refine wa_iinc (v := (1)) (lv' := fun y54 => [(5, .int y54), (6, .int v45), (0, .ref 84), (4, .int l4)]) (by decide) rfl (by decide) (fun _ => rfl) (fun y54 hy54 => ?_)
                                  have ty54 := i_addT hy54.symm
                                  clear hy54
                                  refine wa_goto o_X12_own_160 (by decide) ?_
                                  refine wa_pick [2, 3, 0] rfl ?_
                                  exact ih38 _ (by ((try simp only [vp_in_iff, Int32.lt_iff_toInt_lt, Int32.le_iff_toInt_le, ← Int32.toInt_inj, Int32.reduceToInt, n_1, n_2, n_8, Int32.toNatClampNeg, Int64.lt_iff_toInt_lt, Int64.le_iff_toInt_le, ← Int64.toInt_inj, Int64.reduceToInt, Int32.toInt_toInt64, lg_cmp_ge, lg_cmp_le, lg_cmp_gt, lg_cmp_lt, lg_cmp_eq, Bool.false_eq_true, Bool.true_eq_false, reduceCtorEq, false_iff, true_iff, iff_true, iff_false, and_true, true_and, and_false, false_and, reduceIte, ite_true, ite_false, eq_self] at *)) <;> omega) _ _ ⟨Fs53, ((nxq_gi_si hs53 (by decide)).trans (khi39_0)), ((nxq_gi_si hs53 (by decide)).trans (khi39_1)), ((nxq_gi_si hs53 (by decide)).trans (khi39_2)), ((nxq_gi_si hs53 (by decide)).trans (khi39_3)), ((nxq_gi_si hs53 (by decide)).trans (khi39_4)), ((nxq_gi_si hs53 (by decide)).trans (khi39_5)), (ar_ni hs53 (by decide) As37_109), (ar_ni hs53 (by decide) As37_110), (ar_ni hs53 (by decide) As37_112), (ar_ni hs53 (by decide) As37_128), (ar_ni hs53 (by decide) As37_134), (ar_ni hs53 (by decide) As37_135), (ar_ni hs53 (by decide) As37_136), (ar_ni hs53 (by decide) As37_137), (INW_of (fun k => nx_gb_si hs53) (fun k => nxq_gi_si hs53 (by decide)) (nxq_gi_si hs53 (by decide)) (fun k => nxq_gi_si hs53 (by decide)) (fun k => nxq_gi_si hs53 (by decide)) (fun k => nxq_gi_si hs53 (by decide)) (fun k => nxq_gi_si hs53 (by decide)) (fun k => nxq_gi_si hs53 (by decide)) (fun k => nxq_gi_si hs53 (by decide)) Ps37_INW), (WOK_of (fun k => nxq_gi_si hs53 (by decide)) (fun k => nxq_gi_si hs53 (by decide)) Ps37_WOK), (CHA_of (fun k => nxq_gi_si hs53 (by decide)) (nxq_gi_si hs53 (by decide)) Ps37_CHA), (by ((try simp only [vp_in_iff, Int32.lt_iff_toInt_lt, Int32.le_iff_toInt_le, ← Int32.toInt_inj, Int32.reduceToInt, n_1, n_2, n_8, Int32.toNatClampNeg, Int64.lt_iff_toInt_lt, Int64.le_iff_toInt_le, ← Int64.toInt_inj, Int64.reduceToInt, Int32.toInt_toInt64, lg_cmp_ge, lg_cmp_le, lg_cmp_gt, lg_cmp_lt, lg_cmp_eq, Bool.false_eq_true, Bool.true_eq_false, reduceCtorEq, false_iff, true_iff, iff_true, iff_false, and_true, true_and, and_false, false_and, reduceIte, ite_true, ite_false, eq_self] at *)) <;> omega), (by rw [nxq_gi_si hs53 (by decide)]; first | assumption | (((try simp only [vp_in_iff, Int32.lt_iff_toInt_lt, Int32.le_iff_toInt_le, ← Int32.toInt_inj, Int32.reduceToInt, n_1, n_2, n_8, Int32.toNatClampNeg, Int64.lt_iff_toInt_lt, Int64.le_iff_toInt_le, ← Int64.toInt_inj, Int64.reduceToInt, Int32.toInt_toInt64, lg_cmp_ge, lg_cmp_le, lg_cmp_gt, lg_cmp_lt, lg_cmp_eq, Bool.false_eq_true, Bool.true_eq_false, reduceCtorEq, false_iff, true_iff, iff_true, iff_false, and_true, true_and, and_false, false_and, reduceIte, ite_true, ite_false, eq_self] at *)) <;> omega)), (by first | ((try rw [(nxq_gi_si hs53 (by decide))]); (have e1 := sn_ne hs53 (by decide); have e2 := sn_ne hs37 (by decide); ((try simp only [vp_in_iff, Int32.lt_iff_toInt_lt, Int32.le_iff_toInt_le, ← Int32.toInt_inj, Int32.reduceToInt, n_1, n_2, n_8, Int32.toNatClampNeg, Int64.lt_iff_toInt_lt, Int64.le_iff_toInt_le, ← Int64.toInt_inj, Int64.reduceToInt, Int32.toInt_toInt64, lg_cmp_ge, lg_cmp_le, lg_cmp_gt, lg_cmp_lt, lg_cmp_eq, Bool.false_eq_true, Bool.true_eq_false, reduceCtorEq, false_iff, true_iff, iff_true, iff_false, and_true, true_and, and_false, false_and, reduceIte, ite_true, ite_false, eq_self] at *)) <;> omega)) | ((try rw [(nxq_gi_si hs53 (by decide))]); (have e1 := sn_ne hs53 (by decide); ((try simp only [vp_in_iff, Int32.lt_iff_toInt_lt, Int32.le_iff_toInt_le, ← Int32.toInt_inj, Int32.reduceToInt, n_1, n_2, n_8, Int32.toNatClampNeg, Int64.lt_iff_toInt_lt, Int64.le_iff_toInt_le, ← Int64.toInt_inj, Int64.reduceToInt, Int32.toInt_toInt64, lg_cmp_ge, lg_cmp_le, lg_cmp_gt, lg_cmp_lt, lg_cmp_eq, Bool.false_eq_true, Bool.true_eq_false, reduceCtorEq, false_iff, true_iff, iff_true, iff_false, and_true, true_and, and_false, false_and, reduceIte, ite_true, ite_false, eq_self] at *)) <;> omega)) | ((try rw [(nxq_gi_si hs53 (by decide))]); ((try simp only [vp_in_iff, Int32.lt_iff_toInt_lt, Int32.le_iff_toInt_le, ← Int32.toInt_inj, Int32.reduceToInt, n_1, n_2, n_8, Int32.toNatClampNeg, Int64.lt_iff_toInt_lt, Int64.le_iff_toInt_le, ← Int64.toInt_inj, Int64.reduceToInt, Int32.toInt_toInt64, lg_cmp_ge, lg_cmp_le, lg_cmp_gt, lg_cmp_lt, lg_cmp_eq, Bool.false_eq_true, Bool.true_eq_false, reduceCtorEq, false_iff, true_iff, iff_true, iff_false, and_true, true_and, and_false, false_and, reduceIte, ite_true, ite_false, eq_self] at *)) <;> omega)), (by rw [nxq_gi_si hs53 (by decide)]; first | assumption | (((try simp only [vp_in_iff, Int32.lt_iff_toInt_lt, Int32.le_iff_toInt_le, ← Int32.toInt_inj, Int32.reduceToInt, n_1, n_2, n_8, Int32.toNatClampNeg, Int64.lt_iff_toInt_lt, Int64.le_iff_toInt_le, ← Int64.toInt_inj, Int64.reduceToInt, Int32.toInt_toInt64, lg_cmp_ge, lg_cmp_le, lg_cmp_gt, lg_cmp_lt, lg_cmp_eq, Bool.false_eq_true, Bool.true_eq_false, reduceCtorEq, false_iff, true_iff, iff_true, iff_false, and_true, true_and, and_false, false_and, reduceIte, ite_true, ite_false, eq_self] at *)) <;> omega)), trivial⟩ rfl
                                · refine wa_aload_n (i := 0) rfl rfl ?_
                                  refine wa_getr ck_12 fl_12_385 ly_84 rf_84_153 ?_
                                  refine wa_aload_n (i := 0) rfl rfl ?_
                                  refine wa_getr ck_12 fl_12_379 ly_84 rf_84_151 ?_
                                  refine wa_iload rfl ?_
                                  refine wa_iald ly_110 (by ((try simp only [vp_in_iff, Int32.lt_iff_toInt_lt, Int32.le_iff_toInt_le, ← Int32.toInt_inj, Int32.reduceToInt, n_1, n_2, n_8, Int32.toNatClampNeg, Int64.lt_iff_toInt_lt, Int64.le_iff_toInt_le, ← Int64.toInt_inj, Int64.reduceToInt, Int32.toInt_toInt64, lg_cmp_ge, lg_cmp_le, lg_cmp_gt, lg_cmp_lt, lg_cmp_eq, Bool.false_eq_true, Bool.true_eq_false, reduceCtorEq, false_iff, true_iff, iff_true, iff_false, and_true, true_and, and_false, false_and, reduceIte, ite_true, ite_false, eq_self] at *)) <;> omega) ?_
                                  refine wa_top (fun v55 hv55 => ?_)
                                  have rv55 : 0 ≤ v55.toInt ∧ v55.toInt ≤ 2999 := by rw [← hv55]; exact ar_at As37_110 _
                                  clear hv55
                                  refine wa_aload_n (i := 0) rfl rfl ?_
                                  refine wa_geti ck_12 fl_12_1061 ly_84 ?_
                                  refine wa_iast ly_108 (by ((try simp only [vp_in_iff, Int32.lt_iff_toInt_lt, Int32.le_iff_toInt_le, ← Int32.toInt_inj, Int32.reduceToInt, n_1, n_2, n_8, Int32.toNatClampNeg, Int64.lt_iff_toInt_lt, Int64.le_iff_toInt_le, ← Int64.toInt_inj, Int64.reduceToInt, Int32.toInt_toInt64, lg_cmp_ge, lg_cmp_le, lg_cmp_gt, lg_cmp_lt, lg_cmp_eq, Bool.false_eq_true, Bool.true_eq_false, reduceCtorEq, false_iff, true_iff, iff_true, iff_false, and_true, true_and, and_false, false_and, reduceIte, ite_true, ite_false, eq_self] at *)) <;> omega) (fun s56 hs56 => ?_)
                                  have Fs56 : Fm [106, 107, 108, 109, 110, 112, 120, 121, 123, 124, 125, 126, 127, 128, 129, 130, 131, 132, 133, 134, 135, 136, 137] [0, 119, 129, 131, 156, 157] σ s56 := by rw [hs56]; exact Fm.si Fs37 rfl
                                  have Ns56 := sn_w hs56 (by ((try simp only [vp_in_iff, Int32.lt_iff_toInt_lt, Int32.le_iff_toInt_le, ← Int32.toInt_inj, Int32.reduceToInt, n_1, n_2, n_8, Int32.toNatClampNeg, Int64.lt_iff_toInt_lt, Int64.le_iff_toInt_le, ← Int64.toInt_inj, Int64.reduceToInt, Int32.toInt_toInt64, lg_cmp_ge, lg_cmp_le, lg_cmp_gt, lg_cmp_lt, lg_cmp_eq, Bool.false_eq_true, Bool.true_eq_false, reduceCtorEq, false_iff, true_iff, iff_true, iff_false, and_true, true_and, and_false, false_and, reduceIte, ite_true, ite_false, eq_self] at *)) <;> omega) (by ((try simp only [vp_in_iff, Int32.lt_iff_toInt_lt, Int32.le_iff_toInt_le, ← Int32.toInt_inj, Int32.reduceToInt, n_1, n_2, n_8, Int32.toNatClampNeg, Int64.lt_iff_toInt_lt, Int64.le_iff_toInt_le, ← Int64.toInt_inj, Int64.reduceToInt, Int32.toInt_toInt64, lg_cmp_ge, lg_cmp_le, lg_cmp_gt, lg_cmp_lt, lg_cmp_eq, Bool.false_eq_true, Bool.true_eq_false, reduceCtorEq, false_iff, true_iff, iff_true, iff_false, and_true, true_and, and_false, false_and, reduceIte, ite_true, ite_false, eq_self] at *)) <;> omega) (by ((try simp only [vp_in_iff, Int32.lt_iff_toInt_lt, Int32.le_iff_toInt_le, ← Int32.toInt_inj, Int32.reduceToInt, n_1, n_2, n_8, Int32.toNatClampNeg, Int64.lt_iff_toInt_lt, Int64.le_iff_toInt_le, ← Int64.toInt_inj, Int64.reduceToInt, Int32.toInt_toInt64, lg_cmp_ge, lg_cmp_le, lg_cmp_gt, lg_cmp_lt, lg_cmp_eq, Bool.false_eq_true, Bool.true_eq_false, reduceCtorEq, false_iff, true_iff, iff_true, iff_false, and_true, true_and, and_false, false_and, reduceIte, ite_true, ite_false, eq_self] at *)) <;> omega)
                                  refine wa_aload_n (i := 0) rfl rfl ?_
                                  refine wa_getr ck_12 fl_12_373 ly_84 rf_84_148 ?_
                                  refine wa_aload_n (i := 0) rfl rfl ?_
                                  refine wa_geti ck_12 fl_12_1061 ly_84 ?_
                                  refine wa_rw (nxq_gi_si hs56 (by decide)) ?_
                                  refine wa_iload rfl ?_
                                  refine wa_iast ly_112 (by ((try simp only [vp_in_iff, Int32.lt_iff_toInt_lt, Int32.le_iff_toInt_le, ← Int32.toInt_inj, Int32.reduceToInt, n_1, n_2, n_8, Int32.toNatClampNeg, Int64.lt_iff_toInt_lt, Int64.le_iff_toInt_le, ← Int64.toInt_inj, Int64.reduceToInt, Int32.toInt_toInt64, lg_cmp_ge, lg_cmp_le, lg_cmp_gt, lg_cmp_lt, lg_cmp_eq, Bool.false_eq_true, Bool.true_eq_false, reduceCtorEq, false_iff, true_iff, iff_true, iff_false, and_true, true_and, and_false, false_and, reduceIte, ite_true, ite_false, eq_self] at *)) <;> omega) (fun s57 hs57 => ?_)
                                  have Fs57 : Fm [106, 107, 108, 109, 110, 112, 120, 121, 123, 124, 125, 126, 127, 128, 129, 130, 131, 132, 133, 134, 135, 136, 137] [0, 119, 129, 131, 156, 157] σ s57 := by rw [hs57]; exact Fm.si Fs56 rfl
                                  have Vs57 : 0 ≤ (v45 : Int32).toInt ∧ (v45 : Int32).toInt ≤ 2999 := by ((try simp only [vp_in_iff, Int32.lt_iff_toInt_lt, Int32.le_iff_toInt_le, ← Int32.toInt_inj, Int32.reduceToInt, n_1, n_2, n_8, Int32.toNatClampNeg, Int64.lt_iff_toInt_lt, Int64.le_iff_toInt_le, ← Int64.toInt_inj, Int64.reduceToInt, Int32.toInt_toInt64, lg_cmp_ge, lg_cmp_le, lg_cmp_gt, lg_cmp_lt, lg_cmp_eq, Bool.false_eq_true, Bool.true_eq_false, reduceCtorEq, false_iff, true_iff, iff_true, iff_false, and_true, true_and, and_false, false_and, reduceIte, ite_true, ite_false, eq_self] at *)) <;> omega
                                  have Ms57 := sn_ne hs57 (by decide)
                                  refine wa_aload_n (i := 0) rfl rfl ?_
                                  refine wa_dup rfl ?_
                                  refine wa_geti ck_12 fl_12_1061 ly_84 ?_
                                  refine wa_rw ((nxq_gi_si hs57 (by decide)).trans (nxq_gi_si hs56 (by decide))) ?_
                                  refine wa_iconst (v := 1) (by decide) ?_
                                  refine wa_iadd ?_
                                  refine wa_top (fun v58 hv58 => ?_)
                                  have tv58 := i_addT hv58
                                  clear hv58
                                  refine wa_puti ck_12 fl_12_1061 ly_84 (fun s59 hs59 => ?_)
                                  have Fs59 : Fm [106, 107, 108, 109, 110, 112, 120, 121, 123, 124, 125, 126, 127, 128, 129, 130, 131, 132, 133, 134, 135, 136, 137] [0, 119, 129, 131, 156, 157] σ s59 := by rw [hs59]; exact Fm.si Fs57 rfl
                                  refine wa_aload_n (i := 0) rfl rfl ?_
                                  refine wa_getr ck_12 fl_12_388 ly_84 rf_84_154 ?_
                                  refine wa_bipush (v := 16) (by decide) ?_
                                  refine wa_iload rfl ?_
                                  refine wa_imul ?_
                                  refine wa_top (fun v60 hv60 => ?_)
                                  have tv60 := i_mulT hv60
                                  clear hv60
                                  refine wa_iload rfl ?_
                                  refine wa_iadd ?_
                                  refine wa_top (fun v61 hv61 => ?_)
                                  have tv61 := i_addT hv61
                                  clear hv61
                                  refine wa_aload_n (i := 0) rfl rfl ?_
                                  refine wa_getr ck_12 fl_12_385 ly_84 rf_84_153 ?_
                                  refine wa_aload_n (i := 0) rfl rfl ?_
                                  refine wa_getr ck_12 fl_12_379 ly_84 rf_84_151 ?_
                                  refine wa_iload rfl ?_
                                  refine wa_iald ly_110 (by ((try simp only [vp_in_iff, Int32.lt_iff_toInt_lt, Int32.le_iff_toInt_le, ← Int32.toInt_inj, Int32.reduceToInt, n_1, n_2, n_8, Int32.toNatClampNeg, Int64.lt_iff_toInt_lt, Int64.le_iff_toInt_le, ← Int64.toInt_inj, Int64.reduceToInt, Int32.toInt_toInt64, lg_cmp_ge, lg_cmp_le, lg_cmp_gt, lg_cmp_lt, lg_cmp_eq, Bool.false_eq_true, Bool.true_eq_false, reduceCtorEq, false_iff, true_iff, iff_true, iff_false, and_true, true_and, and_false, false_and, reduceIte, ite_true, ite_false, eq_self] at *)) <;> omega) ?_
                                  refine wa_top (fun v62 hv62 => ?_)
                                  have rv62 : 0 ≤ v62.toInt ∧ v62.toInt ≤ 2999 := by rw [← hv62]; exact ar_at (ar_ni hs59 (by decide) (ar_ni hs57 (by decide) (ar_ni hs56 (by decide) As37_110))) _
                                  clear hv62
                                  refine wa_iald ly_108 (by ((try simp only [vp_in_iff, Int32.lt_iff_toInt_lt, Int32.le_iff_toInt_le, ← Int32.toInt_inj, Int32.reduceToInt, n_1, n_2, n_8, Int32.toNatClampNeg, Int64.lt_iff_toInt_lt, Int64.le_iff_toInt_le, ← Int64.toInt_inj, Int64.reduceToInt, Int32.toInt_toInt64, lg_cmp_ge, lg_cmp_le, lg_cmp_gt, lg_cmp_lt, lg_cmp_eq, Bool.false_eq_true, Bool.true_eq_false, reduceCtorEq, false_iff, true_iff, iff_true, iff_false, and_true, true_and, and_false, false_and, reduceIte, ite_true, ite_false, eq_self] at *)) <;> omega) ?_
                                  refine wa_top (fun v63 hv63 => ?_)
                                  have qv63 := hv63
                                  clear hv63
                                  refine wa_iast ly_107 (by ((try simp only [vp_in_iff, Int32.lt_iff_toInt_lt, Int32.le_iff_toInt_le, ← Int32.toInt_inj, Int32.reduceToInt, n_1, n_2, n_8, Int32.toNatClampNeg, Int64.lt_iff_toInt_lt, Int64.le_iff_toInt_le, ← Int64.toInt_inj, Int64.reduceToInt, Int32.toInt_toInt64, lg_cmp_ge, lg_cmp_le, lg_cmp_gt, lg_cmp_lt, lg_cmp_eq, Bool.false_eq_true, Bool.true_eq_false, reduceCtorEq, false_iff, true_iff, iff_true, iff_false, and_true, true_and, and_false, false_and, reduceIte, ite_true, ite_false, eq_self] at *)) <;> omega) (fun s64 hs64 => ?_)
                                  have Fs64 : Fm [106, 107, 108, 109, 110, 112, 120, 121, 123, 124, 125, 126, 127, 128, 129, 130, 131, 132, 133, 134, 135, 136, 137] [0, 119, 129, 131, 156, 157] σ s64 := by rw [hs64]; exact Fm.si Fs59 rfl
                                  refine wa_iinc (v := (1)) (lv' := fun y65 => [(5, .int y65), (6, .int v45), (0, .ref 84), (4, .int l4)]) (by decide) rfl (by decide) (fun _ => rfl) (fun y65 hy65 => ?_)
                                  have ty65 := i_addT hy65.symm
                                  clear hy65
                                  refine wa_goto o_X12_own_160 (by decide) ?_
                                  refine wa_pick [2, 3, 0] rfl ?_
                                  exact ih38 _ (by ((try simp only [vp_in_iff, Int32.lt_iff_toInt_lt, Int32.le_iff_toInt_le, ← Int32.toInt_inj, Int32.reduceToInt, n_1, n_2, n_8, Int32.toNatClampNeg, Int64.lt_iff_toInt_lt, Int64.le_iff_toInt_le, ← Int64.toInt_inj, Int64.reduceToInt, Int32.toInt_toInt64, lg_cmp_ge, lg_cmp_le, lg_cmp_gt, lg_cmp_lt, lg_cmp_eq, Bool.false_eq_true, Bool.true_eq_false, reduceCtorEq, false_iff, true_iff, iff_true, iff_false, and_true, true_and, and_false, false_and, reduceIte, ite_true, ite_false, eq_self] at *)) <;> omega) _ _ ⟨Fs64, ((nxq_gi_si hs64 (by decide)).trans ((nxk_gi_si hs59 (by decide)).trans ((nxq_gi_si hs57 (by decide)).trans ((nxq_gi_si hs56 (by decide)).trans (khi39_0))))), ((nxq_gi_si hs64 (by decide)).trans ((nxk_gi_si hs59 (by decide)).trans ((nxq_gi_si hs57 (by decide)).trans ((nxq_gi_si hs56 (by decide)).trans (khi39_1))))), ((nxq_gi_si hs64 (by decide)).trans ((nxk_gi_si hs59 (by decide)).trans ((nxq_gi_si hs57 (by decide)).trans ((nxq_gi_si hs56 (by decide)).trans (khi39_2))))), ((nxq_gi_si hs64 (by decide)).trans ((nxk_gi_si hs59 (by decide)).trans ((nxq_gi_si hs57 (by decide)).trans ((nxq_gi_si hs56 (by decide)).trans (khi39_3))))), ((nxq_gi_si hs64 (by decide)).trans ((nxk_gi_si hs59 (by decide)).trans ((nxq_gi_si hs57 (by decide)).trans ((nxq_gi_si hs56 (by decide)).trans (khi39_4))))), ((nxq_gi_si hs64 (by decide)).trans ((nxk_gi_si hs59 (by decide)).trans ((nxq_gi_si hs57 (by decide)).trans ((nxq_gi_si hs56 (by decide)).trans (khi39_5))))), (ar_ni hs64 (by decide) (ar_ni hs59 (by decide) (ar_ni hs57 (by decide) (ar_ni hs56 (by decide) As37_109)))), (ar_ni hs64 (by decide) (ar_ni hs59 (by decide) (ar_ni hs57 (by decide) (ar_ni hs56 (by decide) As37_110)))), (ar_ni hs64 (by decide) (ar_ni hs59 (by decide) (ar_w hs57 Vs57 (ar_ni hs56 (by decide) As37_112)))), (ar_ni hs64 (by decide) (ar_ni hs59 (by decide) (ar_ni hs57 (by decide) (ar_ni hs56 (by decide) As37_128)))), (ar_ni hs64 (by decide) (ar_ni hs59 (by decide) (ar_ni hs57 (by decide) (ar_ni hs56 (by decide) As37_134)))), (ar_ni hs64 (by decide) (ar_ni hs59 (by decide) (ar_ni hs57 (by decide) (ar_ni hs56 (by decide) As37_135)))), (ar_ni hs64 (by decide) (ar_ni hs59 (by decide) (ar_ni hs57 (by decide) (ar_ni hs56 (by decide) As37_136)))), (ar_ni hs64 (by decide) (ar_ni hs59 (by decide) (ar_ni hs57 (by decide) (ar_ni hs56 (by decide) As37_137)))), (INW_of (fun k => (nx_gb_si hs64).trans ((nx_gb_si hs59).trans ((nx_gb_si hs57).trans (nx_gb_si hs56)))) (fun k => (nxq_gi_si hs64 (by decide)).trans ((nxq_gi_si hs59 (by decide)).trans ((nxq_gi_si hs57 (by decide)).trans (nxq_gi_si hs56 (by decide))))) ((nxq_gi_si hs64 (by decide)).trans ((nxk_gi_si hs59 (by decide)).trans ((nxq_gi_si hs57 (by decide)).trans (nxq_gi_si hs56 (by decide))))) (fun k => (nxq_gi_si hs64 (by decide)).trans ((nxq_gi_si hs59 (by decide)).trans ((nxq_gi_si hs57 (by decide)).trans (nxq_gi_si hs56 (by decide))))) (fun k => (nxq_gi_si hs64 (by decide)).trans ((nxq_gi_si hs59 (by decide)).trans ((nxq_gi_si hs57 (by decide)).trans (nxq_gi_si hs56 (by decide))))) (fun k => (nxq_gi_si hs64 (by decide)).trans ((nxq_gi_si hs59 (by decide)).trans ((nxq_gi_si hs57 (by decide)).trans (nxq_gi_si hs56 (by decide))))) (fun k => (nxq_gi_si hs64 (by decide)).trans ((nxq_gi_si hs59 (by decide)).trans ((nxq_gi_si hs57 (by decide)).trans (nxq_gi_si hs56 (by decide))))) (fun k => (nxq_gi_si hs64 (by decide)).trans ((nxq_gi_si hs59 (by decide)).trans ((nxq_gi_si hs57 (by decide)).trans (nxq_gi_si hs56 (by decide))))) (fun k => (nxq_gi_si hs64 (by decide)).trans ((nxq_gi_si hs59 (by decide)).trans ((nxq_gi_si hs57 (by decide)).trans (nxq_gi_si hs56 (by decide))))) Ps37_INW), (WOK_of (fun k => (nxq_gi_si hs64 (by decide)).trans ((nxq_gi_si hs59 (by decide)).trans ((nxq_gi_si hs57 (by decide)).trans (nxq_gi_si hs56 (by decide))))) (fun k => (nxq_gi_si hs64 (by decide)).trans ((nxq_gi_si hs59 (by decide)).trans ((nxq_gi_si hs57 (by decide)).trans (nxq_gi_si hs56 (by decide))))) Ps37_WOK), (CHA_of (fun k => (nxq_gi_si hs64 (by decide)).trans ((nxq_gi_si hs59 (by decide)).trans ((nxq_gi_si hs57 (by decide)).trans (nxq_gi_si hs56 (by decide))))) ((nxq_gi_si hs64 (by decide)).trans ((nxk_gi_si hs59 (by decide)).trans ((nxq_gi_si hs57 (by decide)).trans (nxq_gi_si hs56 (by decide))))) Ps37_CHA), (by ((try simp only [vp_in_iff, Int32.lt_iff_toInt_lt, Int32.le_iff_toInt_le, ← Int32.toInt_inj, Int32.reduceToInt, n_1, n_2, n_8, Int32.toNatClampNeg, Int64.lt_iff_toInt_lt, Int64.le_iff_toInt_le, ← Int64.toInt_inj, Int64.reduceToInt, Int32.toInt_toInt64, lg_cmp_ge, lg_cmp_le, lg_cmp_gt, lg_cmp_lt, lg_cmp_eq, Bool.false_eq_true, Bool.true_eq_false, reduceCtorEq, false_iff, true_iff, iff_true, iff_false, and_true, true_and, and_false, false_and, reduceIte, ite_true, ite_false, eq_self] at *)) <;> omega), (by rw [(nxq_gi_si hs64 (by decide)).trans (nxe_gi_si hs59)]; first | assumption | (((try simp only [vp_in_iff, Int32.lt_iff_toInt_lt, Int32.le_iff_toInt_le, ← Int32.toInt_inj, Int32.reduceToInt, n_1, n_2, n_8, Int32.toNatClampNeg, Int64.lt_iff_toInt_lt, Int64.le_iff_toInt_le, ← Int64.toInt_inj, Int64.reduceToInt, Int32.toInt_toInt64, lg_cmp_ge, lg_cmp_le, lg_cmp_gt, lg_cmp_lt, lg_cmp_eq, Bool.false_eq_true, Bool.true_eq_false, reduceCtorEq, false_iff, true_iff, iff_true, iff_false, and_true, true_and, and_false, false_and, reduceIte, ite_true, ite_false, eq_self] at *)) <;> omega)), (by first | ((try rw [((nxq_gi_si hs64 (by decide)).trans (nxe_gi_si hs59))]); (have e1 := sn_ne hs64 (by decide); have e2 := sn_ne hs59 (by decide); ((try simp only [vp_in_iff, Int32.lt_iff_toInt_lt, Int32.le_iff_toInt_le, ← Int32.toInt_inj, Int32.reduceToInt, n_1, n_2, n_8, Int32.toNatClampNeg, Int64.lt_iff_toInt_lt, Int64.le_iff_toInt_le, ← Int64.toInt_inj, Int64.reduceToInt, Int32.toInt_toInt64, lg_cmp_ge, lg_cmp_le, lg_cmp_gt, lg_cmp_lt, lg_cmp_eq, Bool.false_eq_true, Bool.true_eq_false, reduceCtorEq, false_iff, true_iff, iff_true, iff_false, and_true, true_and, and_false, false_and, reduceIte, ite_true, ite_false, eq_self] at *)) <;> omega)) | ((try rw [((nxq_gi_si hs64 (by decide)).trans (nxe_gi_si hs59))]); (have e1 := sn_ne hs64 (by decide); ((try simp only [vp_in_iff, Int32.lt_iff_toInt_lt, Int32.le_iff_toInt_le, ← Int32.toInt_inj, Int32.reduceToInt, n_1, n_2, n_8, Int32.toNatClampNeg, Int64.lt_iff_toInt_lt, Int64.le_iff_toInt_le, ← Int64.toInt_inj, Int64.reduceToInt, Int32.toInt_toInt64, lg_cmp_ge, lg_cmp_le, lg_cmp_gt, lg_cmp_lt, lg_cmp_eq, Bool.false_eq_true, Bool.true_eq_false, reduceCtorEq, false_iff, true_iff, iff_true, iff_false, and_true, true_and, and_false, false_and, reduceIte, ite_true, ite_false, eq_self] at *)) <;> omega)) | ((try rw [((nxq_gi_si hs64 (by decide)).trans (nxe_gi_si hs59))]); ((try simp only [vp_in_iff, Int32.lt_iff_toInt_lt, Int32.le_iff_toInt_le, ← Int32.toInt_inj, Int32.reduceToInt, n_1, n_2, n_8, Int32.toNatClampNeg, Int64.lt_iff_toInt_lt, Int64.le_iff_toInt_le, ← Int64.toInt_inj, Int64.reduceToInt, Int32.toInt_toInt64, lg_cmp_ge, lg_cmp_le, lg_cmp_gt, lg_cmp_lt, lg_cmp_eq, Bool.false_eq_true, Bool.true_eq_false, reduceCtorEq, false_iff, true_iff, iff_true, iff_false, and_true, true_and, and_false, false_and, reduceIte, ite_true, ite_false, eq_self] at *)) <;> omega)), (by rw [(nxq_gi_si hs64 (by decide)).trans (nxe_gi_si hs59)]; first | assumption | (((try simp only [vp_in_iff, Int32.lt_iff_toInt_lt, Int32.le_iff_toInt_le, ← Int32.toInt_inj, Int32.reduceToInt, n_1, n_2, n_8, Int32.toNatClampNeg, Int64.lt_iff_toInt_lt, Int64.le_iff_toInt_le, ← Int64.toInt_inj, Int64.reduceToInt, Int32.toInt_toInt64, lg_cmp_ge, lg_cmp_le, lg_cmp_gt, lg_cmp_lt, lg_cmp_eq, Bool.false_eq_true, Bool.true_eq_false, reduceCtorEq, false_iff, true_iff, iff_true, iff_false, and_true, true_and, and_false, false_and, reduceIte, ite_true, ite_false, eq_self] at *)) <;> omega)), trivial⟩ rfl
                          exact hi39 _ _ _ ⟨Fs36, ((nxq_gi_si hs36 (by decide)).trans (khi33_0)), ((nxq_gi_si hs36 (by decide)).trans (khi33_1)), ((nxq_gi_si hs36 (by decide)).trans (khi33_2)), ((nxq_gi_si hs36 (by decide)).trans (khi33_3)), ((nxq_gi_si hs36 (by decide)).trans (khi33_4)), ((nxq_gi_si hs36 (by decide)).trans (khi33_5)), (ar_ni hs36 (by decide) As31_109), (ar_ni hs36 (by decide) As31_110), (ar_ni hs36 (by decide) As31_112), (ar_ni hs36 (by decide) As31_128), (ar_ni hs36 (by decide) As31_134), (ar_ni hs36 (by decide) As31_135), (ar_ni hs36 (by decide) As31_136), (ar_ni hs36 (by decide) As31_137), (INW_of (fun k => nx_gb_si hs36) (fun k => nxq_gi_si hs36 (by decide)) (nxq_gi_si hs36 (by decide)) (fun k => nxq_gi_si hs36 (by decide)) (fun k => nxq_gi_si hs36 (by decide)) (fun k => nxq_gi_si hs36 (by decide)) (fun k => nxq_gi_si hs36 (by decide)) (fun k => nxq_gi_si hs36 (by decide)) (fun k => nxq_gi_si hs36 (by decide)) Ps31_INW), (WOK_of (fun k => nxq_gi_si hs36 (by decide)) (fun k => nxq_gi_si hs36 (by decide)) Ps31_WOK), (CHA_of (fun k => nxq_gi_si hs36 (by decide)) (nxq_gi_si hs36 (by decide)) Ps31_CHA), (by ((try simp only [vp_in_iff, Int32.lt_iff_toInt_lt, Int32.le_iff_toInt_le, ← Int32.toInt_inj, Int32.reduceToInt, n_1, n_2, n_8, Int32.toNatClampNeg, Int64.lt_iff_toInt_lt, Int64.le_iff_toInt_le, ← Int64.toInt_inj, Int64.reduceToInt, Int32.toInt_toInt64, lg_cmp_ge, lg_cmp_le, lg_cmp_gt, lg_cmp_lt, lg_cmp_eq, Bool.false_eq_true, Bool.true_eq_false, reduceCtorEq, false_iff, true_iff, iff_true, iff_false, and_true, true_and, and_false, false_and, reduceIte, ite_true, ite_false, eq_self] at *)) <;> omega), (by rw [nxq_gi_si hs36 (by decide)]; first | assumption | (((try simp only [vp_in_iff, Int32.lt_iff_toInt_lt, Int32.le_iff_toInt_le, ← Int32.toInt_inj, Int32.reduceToInt, n_1, n_2, n_8, Int32.toNatClampNeg, Int64.lt_iff_toInt_lt, Int64.le_iff_toInt_le, ← Int64.toInt_inj, Int64.reduceToInt, Int32.toInt_toInt64, lg_cmp_ge, lg_cmp_le, lg_cmp_gt, lg_cmp_lt, lg_cmp_eq, Bool.false_eq_true, Bool.true_eq_false, reduceCtorEq, false_iff, true_iff, iff_true, iff_false, and_true, true_and, and_false, false_and, reduceIte, ite_true, ite_false, eq_self] at *)) <;> omega)), (by first | ((try rw [(nxq_gi_si hs36 (by decide))]); (have e1 := sn_ne hs36 (by decide); have e2 := sn_ne hs31 (by decide); ((try simp only [vp_in_iff, Int32.lt_iff_toInt_lt, Int32.le_iff_toInt_le, ← Int32.toInt_inj, Int32.reduceToInt, n_1, n_2, n_8, Int32.toNatClampNeg, Int64.lt_iff_toInt_lt, Int64.le_iff_toInt_le, ← Int64.toInt_inj, Int64.reduceToInt, Int32.toInt_toInt64, lg_cmp_ge, lg_cmp_le, lg_cmp_gt, lg_cmp_lt, lg_cmp_eq, Bool.false_eq_true, Bool.true_eq_false, reduceCtorEq, false_iff, true_iff, iff_true, iff_false, and_true, true_and, and_false, false_and, reduceIte, ite_true, ite_false, eq_self] at *)) <;> omega)) | ((try rw [(nxq_gi_si hs36 (by decide))]); (have e1 := sn_ne hs36 (by decide); ((try simp only [vp_in_iff, Int32.lt_iff_toInt_lt, Int32.le_iff_toInt_le, ← Int32.toInt_inj, Int32.reduceToInt, n_1, n_2, n_8, Int32.toNatClampNeg, Int64.lt_iff_toInt_lt, Int64.le_iff_toInt_le, ← Int64.toInt_inj, Int64.reduceToInt, Int32.toInt_toInt64, lg_cmp_ge, lg_cmp_le, lg_cmp_gt, lg_cmp_lt, lg_cmp_eq, Bool.false_eq_true, Bool.true_eq_false, reduceCtorEq, false_iff, true_iff, iff_true, iff_false, and_true, true_and, and_false, false_and, reduceIte, ite_true, ite_false, eq_self] at *)) <;> omega)) | ((try rw [(nxq_gi_si hs36 (by decide))]); ((try simp only [vp_in_iff, Int32.lt_iff_toInt_lt, Int32.le_iff_toInt_le, ← Int32.toInt_inj, Int32.reduceToInt, n_1, n_2, n_8, Int32.toNatClampNeg, Int64.lt_iff_toInt_lt, Int64.le_iff_toInt_le, ← Int64.toInt_inj, Int64.reduceToInt, Int32.toInt_toInt64, lg_cmp_ge, lg_cmp_le, lg_cmp_gt, lg_cmp_lt, lg_cmp_eq, Bool.false_eq_true, Bool.true_eq_false, reduceCtorEq, false_iff, true_iff, iff_true, iff_false, and_true, true_and, and_false, false_and, reduceIte, ite_true, ite_false, eq_self] at *)) <;> omega)), (by rw [nxq_gi_si hs36 (by decide)]; first | assumption | (((try simp only [vp_in_iff, Int32.lt_iff_toInt_lt, Int32.le_iff_toInt_le, ← Int32.toInt_inj, Int32.reduceToInt, n_1, n_2, n_8, Int32.toNatClampNeg, Int64.lt_iff_toInt_lt, Int64.le_iff_toInt_le, ← Int64.toInt_inj, Int64.reduceToInt, Int32.toInt_toInt64, lg_cmp_ge, lg_cmp_le, lg_cmp_gt, lg_cmp_lt, lg_cmp_eq, Bool.false_eq_true, Bool.true_eq_false, reduceCtorEq, false_iff, true_iff, iff_true, iff_false, and_true, true_and, and_false, false_and, reduceIte, ite_true, ite_false, eq_self] at *)) <;> omega)), trivial⟩ rfl
                    exact hi33 _ _ _ ⟨Fs30, ((nxk_gi_si hs30 (by decide)).trans ((nxk_gi_si hs29 (by decide)).trans ((nxq_gi_si hs28 (by decide)).trans ((nxq_gi_si hs27 (by decide)).trans (khi24_0))))), ((nxk_gi_si hs30 (by decide)).trans ((nxk_gi_si hs29 (by decide)).trans ((nxq_gi_si hs28 (by decide)).trans ((nxq_gi_si hs27 (by decide)).trans (khi24_1))))), ((nxk_gi_si hs30 (by decide)).trans ((nxk_gi_si hs29 (by decide)).trans ((nxq_gi_si hs28 (by decide)).trans ((nxq_gi_si hs27 (by decide)).trans (khi24_2))))), ((nxk_gi_si hs30 (by decide)).trans ((nxk_gi_si hs29 (by decide)).trans ((nxq_gi_si hs28 (by decide)).trans ((nxq_gi_si hs27 (by decide)).trans (khi24_3))))), ((nxk_gi_si hs30 (by decide)).trans ((nxk_gi_si hs29 (by decide)).trans ((nxq_gi_si hs28 (by decide)).trans ((nxq_gi_si hs27 (by decide)).trans (khi24_4))))), (nxe_gi_si hs30), (ar_ni hs30 (by decide) (ar_ni hs29 (by decide) (ar_ni hs28 (by decide) (ar_ni hs27 (by decide) As22_109)))), (ar_ni hs30 (by decide) (ar_ni hs29 (by decide) (ar_ni hs28 (by decide) (ar_ni hs27 (by decide) As22_110)))), (ar_ni hs30 (by decide) (ar_ni hs29 (by decide) (ar_w hs28 Vs28 (ar_ni hs27 (by decide) As22_112)))), (ar_ni hs30 (by decide) (ar_ni hs29 (by decide) (ar_ni hs28 (by decide) (ar_ni hs27 (by decide) As22_128)))), (ar_ni hs30 (by decide) (ar_ni hs29 (by decide) (ar_ni hs28 (by decide) (ar_ni hs27 (by decide) As22_134)))), (ar_ni hs30 (by decide) (ar_ni hs29 (by decide) (ar_ni hs28 (by decide) (ar_ni hs27 (by decide) As22_135)))), (ar_ni hs30 (by decide) (ar_ni hs29 (by decide) (ar_ni hs28 (by decide) (ar_ni hs27 (by decide) As22_136)))), (ar_ni hs30 (by decide) (ar_ni hs29 (by decide) (ar_ni hs28 (by decide) (ar_ni hs27 (by decide) As22_137)))), (INW_of (fun k => (nx_gb_si hs30).trans ((nx_gb_si hs29).trans ((nx_gb_si hs28).trans (nx_gb_si hs27)))) (fun k => (nxq_gi_si hs30 (by decide)).trans ((nxq_gi_si hs29 (by decide)).trans ((nxq_gi_si hs28 (by decide)).trans (nxq_gi_si hs27 (by decide))))) ((nxk_gi_si hs30 (by decide)).trans ((nxk_gi_si hs29 (by decide)).trans ((nxq_gi_si hs28 (by decide)).trans (nxq_gi_si hs27 (by decide))))) (fun k => (nxq_gi_si hs30 (by decide)).trans ((nxq_gi_si hs29 (by decide)).trans ((nxq_gi_si hs28 (by decide)).trans (nxq_gi_si hs27 (by decide))))) (fun k => (nxq_gi_si hs30 (by decide)).trans ((nxq_gi_si hs29 (by decide)).trans ((nxq_gi_si hs28 (by decide)).trans (nxq_gi_si hs27 (by decide))))) (fun k => (nxq_gi_si hs30 (by decide)).trans ((nxq_gi_si hs29 (by decide)).trans ((nxq_gi_si hs28 (by decide)).trans (nxq_gi_si hs27 (by decide))))) (fun k => (nxq_gi_si hs30 (by decide)).trans ((nxq_gi_si hs29 (by decide)).trans ((nxq_gi_si hs28 (by decide)).trans (nxq_gi_si hs27 (by decide))))) (fun k => (nxq_gi_si hs30 (by decide)).trans ((nxq_gi_si hs29 (by decide)).trans ((nxq_gi_si hs28 (by decide)).trans (nxq_gi_si hs27 (by decide))))) (fun k => (nxq_gi_si hs30 (by decide)).trans ((nxq_gi_si hs29 (by decide)).trans ((nxq_gi_si hs28 (by decide)).trans (nxq_gi_si hs27 (by decide))))) Ps22_INW), (WOK_of (fun k => (nxq_gi_si hs30 (by decide)).trans ((nxq_gi_si hs29 (by decide)).trans ((nxq_gi_si hs28 (by decide)).trans (nxq_gi_si hs27 (by decide))))) (fun k => (nxq_gi_si hs30 (by decide)).trans ((nxq_gi_si hs29 (by decide)).trans ((nxq_gi_si hs28 (by decide)).trans (nxq_gi_si hs27 (by decide))))) Ps22_WOK), (CHA_of (fun k => (nxq_gi_si hs30 (by decide)).trans ((nxq_gi_si hs29 (by decide)).trans ((nxq_gi_si hs28 (by decide)).trans (nxq_gi_si hs27 (by decide))))) ((nxk_gi_si hs30 (by decide)).trans ((nxk_gi_si hs29 (by decide)).trans ((nxq_gi_si hs28 (by decide)).trans (nxq_gi_si hs27 (by decide))))) Ps22_CHA), (by ((try simp only [vp_in_iff, Int32.lt_iff_toInt_lt, Int32.le_iff_toInt_le, ← Int32.toInt_inj, Int32.reduceToInt, n_1, n_2, n_8, Int32.toNatClampNeg, Int64.lt_iff_toInt_lt, Int64.le_iff_toInt_le, ← Int64.toInt_inj, Int64.reduceToInt, Int32.toInt_toInt64, lg_cmp_ge, lg_cmp_le, lg_cmp_gt, lg_cmp_lt, lg_cmp_eq, Bool.false_eq_true, Bool.true_eq_false, reduceCtorEq, false_iff, true_iff, iff_true, iff_false, and_true, true_and, and_false, false_and, reduceIte, ite_true, ite_false, eq_self] at *)) <;> omega), (by rw [(nxk_gi_si hs30 (by decide)).trans (nxe_gi_si hs29)]; first | assumption | (((try simp only [vp_in_iff, Int32.lt_iff_toInt_lt, Int32.le_iff_toInt_le, ← Int32.toInt_inj, Int32.reduceToInt, n_1, n_2, n_8, Int32.toNatClampNeg, Int64.lt_iff_toInt_lt, Int64.le_iff_toInt_le, ← Int64.toInt_inj, Int64.reduceToInt, Int32.toInt_toInt64, lg_cmp_ge, lg_cmp_le, lg_cmp_gt, lg_cmp_lt, lg_cmp_eq, Bool.false_eq_true, Bool.true_eq_false, reduceCtorEq, false_iff, true_iff, iff_true, iff_false, and_true, true_and, and_false, false_and, reduceIte, ite_true, ite_false, eq_self] at *)) <;> omega)), (by first | ((try rw [((nxk_gi_si hs30 (by decide)).trans (nxe_gi_si hs29))]); (have e1 := sn_ne hs30 (by decide); have e2 := sn_ne hs29 (by decide); ((try simp only [vp_in_iff, Int32.lt_iff_toInt_lt, Int32.le_iff_toInt_le, ← Int32.toInt_inj, Int32.reduceToInt, n_1, n_2, n_8, Int32.toNatClampNeg, Int64.lt_iff_toInt_lt, Int64.le_iff_toInt_le, ← Int64.toInt_inj, Int64.reduceToInt, Int32.toInt_toInt64, lg_cmp_ge, lg_cmp_le, lg_cmp_gt, lg_cmp_lt, lg_cmp_eq, Bool.false_eq_true, Bool.true_eq_false, reduceCtorEq, false_iff, true_iff, iff_true, iff_false, and_true, true_and, and_false, false_and, reduceIte, ite_true, ite_false, eq_self] at *)) <;> omega)) | ((try rw [((nxk_gi_si hs30 (by decide)).trans (nxe_gi_si hs29))]); (have e1 := sn_ne hs30 (by decide); ((try simp only [vp_in_iff, Int32.lt_iff_toInt_lt, Int32.le_iff_toInt_le, ← Int32.toInt_inj, Int32.reduceToInt, n_1, n_2, n_8, Int32.toNatClampNeg, Int64.lt_iff_toInt_lt, Int64.le_iff_toInt_le, ← Int64.toInt_inj, Int64.reduceToInt, Int32.toInt_toInt64, lg_cmp_ge, lg_cmp_le, lg_cmp_gt, lg_cmp_lt, lg_cmp_eq, Bool.false_eq_true, Bool.true_eq_false, reduceCtorEq, false_iff, true_iff, iff_true, iff_false, and_true, true_and, and_false, false_and, reduceIte, ite_true, ite_false, eq_self] at *)) <;> omega)) | ((try rw [((nxk_gi_si hs30 (by decide)).trans (nxe_gi_si hs29))]); ((try simp only [vp_in_iff, Int32.lt_iff_toInt_lt, Int32.le_iff_toInt_le, ← Int32.toInt_inj, Int32.reduceToInt, n_1, n_2, n_8, Int32.toNatClampNeg, Int64.lt_iff_toInt_lt, Int64.le_iff_toInt_le, ← Int64.toInt_inj, Int64.reduceToInt, Int32.toInt_toInt64, lg_cmp_ge, lg_cmp_le, lg_cmp_gt, lg_cmp_lt, lg_cmp_eq, Bool.false_eq_true, Bool.true_eq_false, reduceCtorEq, false_iff, true_iff, iff_true, iff_false, and_true, true_and, and_false, false_and, reduceIte, ite_true, ite_false, eq_self] at *)) <;> omega)), (by rw [(nxk_gi_si hs30 (by decide)).trans (nxe_gi_si hs29)]; first | assumption | (((try simp only [vp_in_iff, Int32.lt_iff_toInt_lt, Int32.le_iff_toInt_le, ← Int32.toInt_inj, Int32.reduceToInt, n_1, n_2, n_8, Int32.toNatClampNeg, Int64.lt_iff_toInt_lt, Int64.le_iff_toInt_le, ← Int64.toInt_inj, Int64.reduceToInt, Int32.toInt_toInt64, lg_cmp_ge, lg_cmp_le, lg_cmp_gt, lg_cmp_lt, lg_cmp_eq, Bool.false_eq_true, Bool.true_eq_false, reduceCtorEq, false_iff, true_iff, iff_true, iff_false, and_true, true_and, and_false, false_and, reduceIte, ite_true, ite_false, eq_self] at *)) <;> omega)), trivial⟩ rfl
                  · have mh25 := nle_mx h25
                    refine wa_aload_n (i := 0) rfl rfl ?_
                    refine wa_getr ck_12 fl_12_385 ly_84 rf_84_153 ?_
                    refine wa_iload rfl ?_
                    refine wa_iconst (v := (-1)) (by decide) ?_
                    refine wa_iast ly_108 (by ((try simp only [vp_in_iff, Int32.lt_iff_toInt_lt, Int32.le_iff_toInt_le, ← Int32.toInt_inj, Int32.reduceToInt, n_1, n_2, n_8, Int32.toNatClampNeg, Int64.lt_iff_toInt_lt, Int64.le_iff_toInt_le, ← Int64.toInt_inj, Int64.reduceToInt, Int32.toInt_toInt64, lg_cmp_ge, lg_cmp_le, lg_cmp_gt, lg_cmp_lt, lg_cmp_eq, Bool.false_eq_true, Bool.true_eq_false, reduceCtorEq, false_iff, true_iff, iff_true, iff_false, and_true, true_and, and_false, false_and, reduceIte, ite_true, ite_false, eq_self] at *)) <;> omega) (fun s66 hs66 => ?_)
                    have Fs66 : Fm [106, 107, 108, 109, 110, 112, 120, 121, 123, 124, 125, 126, 127, 128, 129, 130, 131, 132, 133, 134, 135, 136, 137] [0, 119, 129, 131, 156, 157] σ s66 := by rw [hs66]; exact Fm.si Fs22 rfl
                    refine wa_iinc (v := (1)) (lv' := fun y67 => [(4, .int y67), (0, .ref 84), (2, .int l2)]) (by decide) rfl (by decide) (fun _ => rfl) (fun y67 hy67 => ?_)
                    have ty67 := i_addT hy67.symm
                    clear hy67
                    refine wa_goto o_X12_own_74 (by decide) ?_
                    refine wa_pick [1, 2, 0] rfl ?_
                    exact ih23 _ (by ((try simp only [vp_in_iff, Int32.lt_iff_toInt_lt, Int32.le_iff_toInt_le, ← Int32.toInt_inj, Int32.reduceToInt, n_1, n_2, n_8, Int32.toNatClampNeg, Int64.lt_iff_toInt_lt, Int64.le_iff_toInt_le, ← Int64.toInt_inj, Int64.reduceToInt, Int32.toInt_toInt64, lg_cmp_ge, lg_cmp_le, lg_cmp_gt, lg_cmp_lt, lg_cmp_eq, Bool.false_eq_true, Bool.true_eq_false, reduceCtorEq, false_iff, true_iff, iff_true, iff_false, and_true, true_and, and_false, false_and, reduceIte, ite_true, ite_false, eq_self] at *)) <;> omega) _ _ ⟨Fs66, ((nxq_gi_si hs66 (by decide)).trans (khi24_0)), ((nxq_gi_si hs66 (by decide)).trans (khi24_1)), ((nxq_gi_si hs66 (by decide)).trans (khi24_2)), ((nxq_gi_si hs66 (by decide)).trans (khi24_3)), ((nxq_gi_si hs66 (by decide)).trans (khi24_4)), ((nxq_gi_si hs66 (by decide)).trans (khi24_5)), ((nxq_gi_si hs66 (by decide)).trans (khi24_6)), (ar_ni hs66 (by decide) As22_109), (ar_ni hs66 (by decide) As22_110), (ar_ni hs66 (by decide) As22_112), (ar_ni hs66 (by decide) As22_128), (ar_ni hs66 (by decide) As22_134), (ar_ni hs66 (by decide) As22_135), (ar_ni hs66 (by decide) As22_136), (ar_ni hs66 (by decide) As22_137), (INW_of (fun k => nx_gb_si hs66) (fun k => nxq_gi_si hs66 (by decide)) (nxq_gi_si hs66 (by decide)) (fun k => nxq_gi_si hs66 (by decide)) (fun k => nxq_gi_si hs66 (by decide)) (fun k => nxq_gi_si hs66 (by decide)) (fun k => nxq_gi_si hs66 (by decide)) (fun k => nxq_gi_si hs66 (by decide)) (fun k => nxq_gi_si hs66 (by decide)) Ps22_INW), (WOK_of (fun k => nxq_gi_si hs66 (by decide)) (fun k => nxq_gi_si hs66 (by decide)) Ps22_WOK), (CHA_of (fun k => nxq_gi_si hs66 (by decide)) (nxq_gi_si hs66 (by decide)) Ps22_CHA), (by ((try simp only [vp_in_iff, Int32.lt_iff_toInt_lt, Int32.le_iff_toInt_le, ← Int32.toInt_inj, Int32.reduceToInt, n_1, n_2, n_8, Int32.toNatClampNeg, Int64.lt_iff_toInt_lt, Int64.le_iff_toInt_le, ← Int64.toInt_inj, Int64.reduceToInt, Int32.toInt_toInt64, lg_cmp_ge, lg_cmp_le, lg_cmp_gt, lg_cmp_lt, lg_cmp_eq, Bool.false_eq_true, Bool.true_eq_false, reduceCtorEq, false_iff, true_iff, iff_true, iff_false, and_true, true_and, and_false, false_and, reduceIte, ite_true, ite_false, eq_self] at *)) <;> omega), trivial⟩ rfl
              exact hi24 _ _ _ ⟨Fs18, (khi20_0), (khi20_1), (khi20_2), (khi20_3), (khi20_4), (khi20_5), (khi20_6), As18_109, As18_110, As18_112, As18_128, As18_134, As18_135, As18_136, As18_137, Ps18_INW, Ps18_WOK, Ps18_CHA, (by ((try simp only [vp_in_iff, Int32.lt_iff_toInt_lt, Int32.le_iff_toInt_le, ← Int32.toInt_inj, Int32.reduceToInt, n_1, n_2, n_8, Int32.toNatClampNeg, Int64.lt_iff_toInt_lt, Int64.le_iff_toInt_le, ← Int64.toInt_inj, Int64.reduceToInt, Int32.toInt_toInt64, lg_cmp_ge, lg_cmp_le, lg_cmp_gt, lg_cmp_lt, lg_cmp_eq, Bool.false_eq_true, Bool.true_eq_false, reduceCtorEq, false_iff, true_iff, iff_true, iff_false, and_true, true_and, and_false, false_and, reduceIte, ite_true, ite_false, eq_self] at *)) <;> omega), trivial⟩ rfl
            · refine wa_iload_n (i := 2) rfl rfl ?_
              refine wa_istore_nD (lv' := [(3, .int l2), (0, .ref 84), (2, .int l2)]) (i := 3) rfl (by decide) rfl ?_
              refine wa_aload_n (i := 0) rfl rfl ?_
              refine wa_iconst (v := 0) (by decide) ?_
              refine wa_Vi (d9 := d - 1) [.int (bI false)] [] (sp_X12_sortOut G (d := d - 1) (by omega) s18 false (by rw [khi20_4]; first | assumption | exact Or.inl rfl | exact Or.inr rfl | (((try simp only [vp_in_iff, Int32.lt_iff_toInt_lt, Int32.le_iff_toInt_le, ← Int32.toInt_inj, Int32.reduceToInt, n_1, n_2, n_8, Int32.toNatClampNeg, Int64.lt_iff_toInt_lt, Int64.le_iff_toInt_le, ← Int64.toInt_inj, Int64.reduceToInt, Int32.toInt_toInt64, lg_cmp_ge, lg_cmp_le, lg_cmp_gt, lg_cmp_lt, lg_cmp_eq, Bool.false_eq_true, Bool.true_eq_false, reduceCtorEq, false_iff, true_iff, iff_true, iff_false, and_true, true_and, and_false, false_and, reduceIte, ite_true, ite_false, eq_self] at *)) <;> omega)) (by rw [khi20_2]; first | assumption | exact Or.inl rfl | exact Or.inr rfl | (((try simp only [vp_in_iff, Int32.lt_iff_toInt_lt, Int32.le_iff_toInt_le, ← Int32.toInt_inj, Int32.reduceToInt, n_1, n_2, n_8, Int32.toNatClampNeg, Int64.lt_iff_toInt_lt, Int64.le_iff_toInt_le, ← Int64.toInt_inj, Int64.reduceToInt, Int32.toInt_toInt64, lg_cmp_ge, lg_cmp_le, lg_cmp_gt, lg_cmp_lt, lg_cmp_eq, Bool.false_eq_true, Bool.true_eq_false, reduceCtorEq, false_iff, true_iff, iff_true, iff_false, and_true, true_and, and_false, false_and, reduceIte, ite_true, ite_false, eq_self] at *)) <;> omega)) As18_109 As18_110 As18_128 Ps18_CHA) (rfl) rfl rfl (zr (by omega)) mk_X12_sortOut ly_84 ml_12_1057 (Nat.le_of_ble_eq_true rfl) (fun x69 s68 hs68 => ?_)
              obtain ⟨fs68, cx69_1, As68_109, As68_110, Ps68_CHA, -⟩ := pI hs68
              have Fs68 : Fm [106, 107, 108, 109, 110, 112, 120, 121, 123, 124, 125, 126, 127, 128, 129, 130, 131, 132, 133, 134, 135, 136, 137] [0, 119, 129, 131, 156, 157] σ s68 := Fm.tr Fs18 (Fm.wd fs68 rfl rfl)
              refine wa_istore_nD (lv' := [(2, .int x69), (3, .int l2), (0, .ref 84)]) (i := 2) rfl (by decide) rfl ?_
              refine wa_goto o_X12_own_55 (by decide) ?_
              refine wa_pick [2, 0, 1] rfl ?_
              exact ih19 _ (by ((try simp only [vp_in_iff, Int32.lt_iff_toInt_lt, Int32.le_iff_toInt_le, ← Int32.toInt_inj, Int32.reduceToInt, n_1, n_2, n_8, Int32.toNatClampNeg, Int64.lt_iff_toInt_lt, Int64.le_iff_toInt_le, ← Int64.toInt_inj, Int64.reduceToInt, Int32.toInt_toInt64, lg_cmp_ge, lg_cmp_le, lg_cmp_gt, lg_cmp_lt, lg_cmp_eq, Bool.false_eq_true, Bool.true_eq_false, reduceCtorEq, false_iff, true_iff, iff_true, iff_false, and_true, true_and, and_false, false_and, reduceIte, ite_true, ite_false, eq_self] at *)) <;> omega) _ _ _ ⟨Fs68, ((Fm.gi fs68 (q := 84) (k := 33) rfl rfl).trans (khi20_0)), ((Fm.gi fs68 (q := 84) (k := 119) rfl rfl).trans (khi20_1)), ((Fm.gi fs68 (q := 84) (k := 129) rfl rfl).trans (khi20_2)), ((Fm.gi fs68 (q := 84) (k := 32) rfl rfl).trans (khi20_3)), ((Fm.gi fs68 (q := 84) (k := 131) rfl rfl).trans (khi20_4)), ((Fm.gi fs68 (q := 84) (k := 156) rfl rfl).trans (khi20_5)), ((Fm.gi fs68 (q := 84) (k := 157) rfl rfl).trans (khi20_6)), As68_109, As68_110, (ar_fm fs68 rfl rfl As18_112), (ar_fm fs68 rfl rfl As18_128), (ar_fm fs68 rfl rfl As18_134), (ar_fm fs68 rfl rfl As18_135), (ar_fm fs68 rfl rfl As18_136), (ar_fm fs68 rfl rfl As18_137), (INW_of (fun k => Fm.gb fs68 (q := 133) (k := k) rfl rfl) (fun k => Fm.gi fs68 (q := 156) (k := k) rfl rfl) (Fm.gi fs68 (q := 84) (k := 119) rfl rfl) (fun k => Fm.gi fs68 (q := 157) (k := k) rfl rfl) (fun k => Fm.gi fs68 (q := 158) (k := k) rfl rfl) (fun k => Fm.gi fs68 (q := 159) (k := k) rfl rfl) (fun k => Fm.gi fs68 (q := 135) (k := k) rfl rfl) (fun k => Fm.gi fs68 (q := 136) (k := k) rfl rfl) (fun k => Fm.gi fs68 (q := 137) (k := k) rfl rfl) Ps18_INW), (WOK_of (fun k => Fm.gi fs68 (q := 135) (k := k) rfl rfl) (fun k => Fm.gi fs68 (q := 136) (k := k) rfl rfl) Ps18_WOK), Ps68_CHA, (by ((try simp only [vp_in_iff, Int32.lt_iff_toInt_lt, Int32.le_iff_toInt_le, ← Int32.toInt_inj, Int32.reduceToInt, n_1, n_2, n_8, Int32.toNatClampNeg, Int64.lt_iff_toInt_lt, Int64.le_iff_toInt_le, ← Int64.toInt_inj, Int64.reduceToInt, Int32.toInt_toInt64, lg_cmp_ge, lg_cmp_le, lg_cmp_gt, lg_cmp_lt, lg_cmp_eq, Bool.false_eq_true, Bool.true_eq_false, reduceCtorEq, false_iff, true_iff, iff_true, iff_false, and_true, true_and, and_false, false_and, reduceIte, ite_true, ite_false, eq_self] at *)) <;> omega), (by ((try simp only [vp_in_iff, Int32.lt_iff_toInt_lt, Int32.le_iff_toInt_le, ← Int32.toInt_inj, Int32.reduceToInt, n_1, n_2, n_8, Int32.toNatClampNeg, Int64.lt_iff_toInt_lt, Int64.le_iff_toInt_le, ← Int64.toInt_inj, Int64.reduceToInt, Int32.toInt_toInt64, lg_cmp_ge, lg_cmp_le, lg_cmp_gt, lg_cmp_lt, lg_cmp_eq, Bool.false_eq_true, Bool.true_eq_false, reduceCtorEq, false_iff, true_iff, iff_true, iff_false, and_true, true_and, and_false, false_and, reduceIte, ite_true, ite_false, eq_self] at *)) <;> omega), trivial⟩ rfl
        exact hi20 _ _ _ _ ⟨Fs16, ((Fm.gi fs16 (q := 84) (k := 33) rfl rfl).trans ((Fm.gi fs14 (q := 84) (k := 33) rfl rfl).trans ((Fm.gi fs11 (q := 84) (k := 33) rfl rfl).trans ((Fm.gi fs9 (q := 84) (k := 33) rfl rfl).trans ((Fm.gi fs7 (q := 84) (k := 33) rfl rfl).trans (Fm.gi fs1 (q := 84) (k := 33) rfl rfl)))))), ((Fm.gi fs16 (q := 84) (k := 119) rfl rfl).trans ((Fm.gi fs14 (q := 84) (k := 119) rfl rfl).trans (Fm.gi fs11 (q := 84) (k := 119) rfl rfl))), ((Fm.gi fs16 (q := 84) (k := 129) rfl rfl).trans (Fm.gi fs14 (q := 84) (k := 129) rfl rfl)), ((Fm.gi fs16 (q := 84) (k := 32) rfl rfl).trans ((Fm.gi fs14 (q := 84) (k := 32) rfl rfl).trans ((Fm.gi fs11 (q := 84) (k := 32) rfl rfl).trans ((Fm.gi fs9 (q := 84) (k := 32) rfl rfl).trans ((Fm.gi fs7 (q := 84) (k := 32) rfl rfl).trans (Fm.gi fs1 (q := 84) (k := 32) rfl rfl)))))), ((Fm.gi fs16 (q := 84) (k := 131) rfl rfl).trans (Fm.gi fs14 (q := 84) (k := 131) rfl rfl)), ((Fm.gi fs16 (q := 84) (k := 156) rfl rfl).trans ((Fm.gi fs14 (q := 84) (k := 156) rfl rfl).trans ((Fm.gi fs11 (q := 84) (k := 156) rfl rfl).trans ((Fm.gi fs9 (q := 84) (k := 156) rfl rfl).trans ((Fm.gi fs7 (q := 84) (k := 156) rfl rfl).trans (Fm.gi fs1 (q := 84) (k := 156) rfl rfl)))))), ((Fm.gi fs16 (q := 84) (k := 157) rfl rfl).trans ((Fm.gi fs14 (q := 84) (k := 157) rfl rfl).trans ((Fm.gi fs11 (q := 84) (k := 157) rfl rfl).trans ((Fm.gi fs9 (q := 84) (k := 157) rfl rfl).trans ((Fm.gi fs7 (q := 84) (k := 157) rfl rfl).trans (Fm.gi fs1 (q := 84) (k := 157) rfl rfl)))))), As16_109, As16_110, (ar_fm fs16 rfl rfl (ar_fm fs14 rfl rfl (ar_fm fs11 rfl rfl (ar_fm fs9 rfl rfl (ar_fm fs7 rfl rfl (ar_fm fs1 rfl rfl A_112)))))), (ar_fm fs16 rfl rfl (ar_fm fs14 rfl rfl As11_128)), (ar_fm fs16 rfl rfl (ar_fm fs14 rfl rfl As11_134)), (ar_fm fs16 rfl rfl (ar_fm fs14 rfl rfl (ar_fm fs11 rfl rfl As9_135))), (ar_fm fs16 rfl rfl (ar_fm fs14 rfl rfl (ar_fm fs11 rfl rfl As9_136))), (ar_fm fs16 rfl rfl (ar_fm fs14 rfl rfl (ar_fm fs11 rfl rfl As9_137))), (INW_of (fun k => (Fm.gb fs16 (q := 133) (k := k) rfl rfl).trans (Fm.gb fs14 (q := 133) (k := k) rfl rfl)) (fun k => (Fm.gi fs16 (q := 156) (k := k) rfl rfl).trans (Fm.gi fs14 (q := 156) (k := k) rfl rfl)) ((Fm.gi fs16 (q := 84) (k := 119) rfl rfl).trans (Fm.gi fs14 (q := 84) (k := 119) rfl rfl)) (fun k => (Fm.gi fs16 (q := 157) (k := k) rfl rfl).trans (Fm.gi fs14 (q := 157) (k := k) rfl rfl)) (fun k => (Fm.gi fs16 (q := 158) (k := k) rfl rfl).trans (Fm.gi fs14 (q := 158) (k := k) rfl rfl)) (fun k => (Fm.gi fs16 (q := 159) (k := k) rfl rfl).trans (Fm.gi fs14 (q := 159) (k := k) rfl rfl)) (fun k => (Fm.gi fs16 (q := 135) (k := k) rfl rfl).trans (Fm.gi fs14 (q := 135) (k := k) rfl rfl)) (fun k => (Fm.gi fs16 (q := 136) (k := k) rfl rfl).trans (Fm.gi fs14 (q := 136) (k := k) rfl rfl)) (fun k => (Fm.gi fs16 (q := 137) (k := k) rfl rfl).trans (Fm.gi fs14 (q := 137) (k := k) rfl rfl)) Ps11_INW), (WOK_of (fun k => (Fm.gi fs16 (q := 135) (k := k) rfl rfl).trans ((Fm.gi fs14 (q := 135) (k := k) rfl rfl).trans (Fm.gi fs11 (q := 135) (k := k) rfl rfl))) (fun k => (Fm.gi fs16 (q := 136) (k := k) rfl rfl).trans ((Fm.gi fs14 (q := 136) (k := k) rfl rfl).trans (Fm.gi fs11 (q := 136) (k := k) rfl rfl))) Ps9_WOK), Ps16_CHA, (by ((try simp only [vp_in_iff, Int32.lt_iff_toInt_lt, Int32.le_iff_toInt_le, ← Int32.toInt_inj, Int32.reduceToInt, n_1, n_2, n_8, Int32.toNatClampNeg, Int64.lt_iff_toInt_lt, Int64.le_iff_toInt_le, ← Int64.toInt_inj, Int64.reduceToInt, Int32.toInt_toInt64, lg_cmp_ge, lg_cmp_le, lg_cmp_gt, lg_cmp_lt, lg_cmp_eq, Bool.false_eq_true, Bool.true_eq_false, reduceCtorEq, false_iff, true_iff, iff_true, iff_false, and_true, true_and, and_false, false_and, reduceIte, ite_true, ite_false, eq_self] at *)) <;> omega), (by ((try simp only [vp_in_iff, Int32.lt_iff_toInt_lt, Int32.le_iff_toInt_le, ← Int32.toInt_inj, Int32.reduceToInt, n_1, n_2, n_8, Int32.toNatClampNeg, Int64.lt_iff_toInt_lt, Int64.le_iff_toInt_le, ← Int64.toInt_inj, Int64.reduceToInt, Int32.toInt_toInt64, lg_cmp_ge, lg_cmp_le, lg_cmp_gt, lg_cmp_lt, lg_cmp_eq, Bool.false_eq_true, Bool.true_eq_false, reduceCtorEq, false_iff, true_iff, iff_true, iff_false, and_true, true_and, and_false, false_and, reduceIte, ite_true, ite_false, eq_self] at *)) <;> omega), trivial⟩ rfl
      · replace h13 := bI_f (b := bx12) (rfl) h13
        refine wa_bipush (v := (-107)) (by decide) ?_
        refine wa_ireturn rfl rfl ?_
        exact ⟨_, rfl, Fs11, (by first | assumption | (((try simp only [vp_in_iff, Int32.lt_iff_toInt_lt, Int32.le_iff_toInt_le, ← Int32.toInt_inj, Int32.reduceToInt, n_1, n_2, n_8, Int32.toNatClampNeg, Int64.lt_iff_toInt_lt, Int64.le_iff_toInt_le, ← Int64.toInt_inj, Int64.reduceToInt, Int32.toInt_toInt64, lg_cmp_ge, lg_cmp_le, lg_cmp_gt, lg_cmp_lt, lg_cmp_eq, Bool.false_eq_true, Bool.true_eq_false, reduceCtorEq, false_iff, true_iff, iff_true, iff_false, and_true, true_and, and_false, false_and, reduceIte, ite_true, ite_false, eq_self] at *)) <;> omega)), (by first | assumption | (((try simp only [vp_in_iff, Int32.lt_iff_toInt_lt, Int32.le_iff_toInt_le, ← Int32.toInt_inj, Int32.reduceToInt, n_1, n_2, n_8, Int32.toNatClampNeg, Int64.lt_iff_toInt_lt, Int64.le_iff_toInt_le, ← Int64.toInt_inj, Int64.reduceToInt, Int32.toInt_toInt64, lg_cmp_ge, lg_cmp_le, lg_cmp_gt, lg_cmp_lt, lg_cmp_eq, Bool.false_eq_true, Bool.true_eq_false, reduceCtorEq, false_iff, true_iff, iff_true, iff_false, and_true, true_and, and_false, false_and, reduceIte, ite_true, ite_false, eq_self] at *)) <;> omega)), (by rw [(Fm.gi fs11 (q := 84) (k := 156) rfl rfl).trans ((Fm.gi fs9 (q := 84) (k := 156) rfl rfl).trans ((Fm.gi fs7 (q := 84) (k := 156) rfl rfl).trans (Fm.gi fs1 (q := 84) (k := 156) rfl rfl)))]; first | assumption | (((try simp only [vp_in_iff, Int32.lt_iff_toInt_lt, Int32.le_iff_toInt_le, ← Int32.toInt_inj, Int32.reduceToInt, n_1, n_2, n_8, Int32.toNatClampNeg, Int64.lt_iff_toInt_lt, Int64.le_iff_toInt_le, ← Int64.toInt_inj, Int64.reduceToInt, Int32.toInt_toInt64, lg_cmp_ge, lg_cmp_le, lg_cmp_gt, lg_cmp_lt, lg_cmp_eq, Bool.false_eq_true, Bool.true_eq_false, reduceCtorEq, false_iff, true_iff, iff_true, iff_false, and_true, true_and, and_false, false_and, reduceIte, ite_true, ite_false, eq_self] at *)) <;> omega)), (by rw [(Fm.gi fs11 (q := 84) (k := 157) rfl rfl).trans ((Fm.gi fs9 (q := 84) (k := 157) rfl rfl).trans ((Fm.gi fs7 (q := 84) (k := 157) rfl rfl).trans (Fm.gi fs1 (q := 84) (k := 157) rfl rfl)))]; first | assumption | (((try simp only [vp_in_iff, Int32.lt_iff_toInt_lt, Int32.le_iff_toInt_le, ← Int32.toInt_inj, Int32.reduceToInt, n_1, n_2, n_8, Int32.toNatClampNeg, Int64.lt_iff_toInt_lt, Int64.le_iff_toInt_le, ← Int64.toInt_inj, Int64.reduceToInt, Int32.toInt_toInt64, lg_cmp_ge, lg_cmp_le, lg_cmp_gt, lg_cmp_lt, lg_cmp_eq, Bool.false_eq_true, Bool.true_eq_false, reduceCtorEq, false_iff, true_iff, iff_true, iff_false, and_true, true_and, and_false, false_and, reduceIte, ite_true, ite_false, eq_self] at *)) <;> omega)), (ar_fm fs11 rfl rfl (ar_fm fs9 rfl rfl (ar_fm fs7 rfl rfl (ar_fm fs1 rfl rfl A_109)))), (ar_fm fs11 rfl rfl (ar_fm fs9 rfl rfl (ar_fm fs7 rfl rfl (ar_fm fs1 rfl rfl A_110)))), (ar_fm fs11 rfl rfl (ar_fm fs9 rfl rfl (ar_fm fs7 rfl rfl (ar_fm fs1 rfl rfl A_112)))), As11_128, As11_134, (ar_fm fs11 rfl rfl As9_135), (ar_fm fs11 rfl rfl As9_136), (ar_fm fs11 rfl rfl As9_137), Ps11_INW, (WOK_of (fun k => Fm.gi fs11 (q := 135) (k := k) rfl rfl) (fun k => Fm.gi fs11 (q := 136) (k := k) rfl rfl) Ps9_WOK), Ps11_CHA, trivial⟩
    · replace h6 := bI_f (b := bx5) (rfl) h6
      have uh6_0 := iff_f cx5_1 h6
      refine wa_bipush (v := (-101)) (by decide) ?_
      refine wa_ireturn rfl rfl ?_
      exact ⟨_, rfl, Fs1, (by rw [Fm.gi fs1 (q := 84) (k := 129) rfl rfl]; first | assumption | (((try simp only [vp_in_iff, Int32.lt_iff_toInt_lt, Int32.le_iff_toInt_le, ← Int32.toInt_inj, Int32.reduceToInt, n_1, n_2, n_8, Int32.toNatClampNeg, Int64.lt_iff_toInt_lt, Int64.le_iff_toInt_le, ← Int64.toInt_inj, Int64.reduceToInt, Int32.toInt_toInt64, lg_cmp_ge, lg_cmp_le, lg_cmp_gt, lg_cmp_lt, lg_cmp_eq, Bool.false_eq_true, Bool.true_eq_false, reduceCtorEq, false_iff, true_iff, iff_true, iff_false, and_true, true_and, and_false, false_and, reduceIte, ite_true, ite_false, eq_self] at *)) <;> omega)), (by rw [Fm.gi fs1 (q := 84) (k := 131) rfl rfl]; first | assumption | (((try simp only [vp_in_iff, Int32.lt_iff_toInt_lt, Int32.le_iff_toInt_le, ← Int32.toInt_inj, Int32.reduceToInt, n_1, n_2, n_8, Int32.toNatClampNeg, Int64.lt_iff_toInt_lt, Int64.le_iff_toInt_le, ← Int64.toInt_inj, Int64.reduceToInt, Int32.toInt_toInt64, lg_cmp_ge, lg_cmp_le, lg_cmp_gt, lg_cmp_lt, lg_cmp_eq, Bool.false_eq_true, Bool.true_eq_false, reduceCtorEq, false_iff, true_iff, iff_true, iff_false, and_true, true_and, and_false, false_and, reduceIte, ite_true, ite_false, eq_self] at *)) <;> omega)), (by rw [Fm.gi fs1 (q := 84) (k := 156) rfl rfl]; first | assumption | (((try simp only [vp_in_iff, Int32.lt_iff_toInt_lt, Int32.le_iff_toInt_le, ← Int32.toInt_inj, Int32.reduceToInt, n_1, n_2, n_8, Int32.toNatClampNeg, Int64.lt_iff_toInt_lt, Int64.le_iff_toInt_le, ← Int64.toInt_inj, Int64.reduceToInt, Int32.toInt_toInt64, lg_cmp_ge, lg_cmp_le, lg_cmp_gt, lg_cmp_lt, lg_cmp_eq, Bool.false_eq_true, Bool.true_eq_false, reduceCtorEq, false_iff, true_iff, iff_true, iff_false, and_true, true_and, and_false, false_and, reduceIte, ite_true, ite_false, eq_self] at *)) <;> omega)), (by rw [Fm.gi fs1 (q := 84) (k := 157) rfl rfl]; first | assumption | (((try simp only [vp_in_iff, Int32.lt_iff_toInt_lt, Int32.le_iff_toInt_le, ← Int32.toInt_inj, Int32.reduceToInt, n_1, n_2, n_8, Int32.toNatClampNeg, Int64.lt_iff_toInt_lt, Int64.le_iff_toInt_le, ← Int64.toInt_inj, Int64.reduceToInt, Int32.toInt_toInt64, lg_cmp_ge, lg_cmp_le, lg_cmp_gt, lg_cmp_lt, lg_cmp_eq, Bool.false_eq_true, Bool.true_eq_false, reduceCtorEq, false_iff, true_iff, iff_true, iff_false, and_true, true_and, and_false, false_and, reduceIte, ite_true, ite_false, eq_self] at *)) <;> omega)), (ar_fm fs1 rfl rfl A_109), (ar_fm fs1 rfl rfl A_110), (ar_fm fs1 rfl rfl A_112), (ar_fm fs1 rfl rfl A_128), (ar_fm fs1 rfl rfl A_134), (ar_fm fs1 rfl rfl A_135), (ar_fm fs1 rfl rfl A_136), (ar_fm fs1 rfl rfl A_137), (INW_of (fun k => Fm.gb fs1 (q := 133) (k := k) rfl rfl) (fun k => Fm.gi fs1 (q := 156) (k := k) rfl rfl) (Fm.gi fs1 (q := 84) (k := 119) rfl rfl) (fun k => Fm.gi fs1 (q := 157) (k := k) rfl rfl) (fun k => Fm.gi fs1 (q := 158) (k := k) rfl rfl) (fun k => Fm.gi fs1 (q := 159) (k := k) rfl rfl) (fun k => Fm.gi fs1 (q := 135) (k := k) rfl rfl) (fun k => Fm.gi fs1 (q := 136) (k := k) rfl rfl) (fun k => Fm.gi fs1 (q := 137) (k := k) rfl rfl) P_INW), (WOK_of (fun k => Fm.gi fs1 (q := 135) (k := k) rfl rfl) (fun k => Fm.gi fs1 (q := 136) (k := k) rfl rfl) P_WOK), (CHA_of (fun k => Fm.gi fs1 (q := 126) (k := k) rfl rfl) (Fm.gi fs1 (q := 84) (k := 129) rfl rfl) P_CHA), trivial⟩
  · replace h3 := bI_f (b := bx2) (rfl) h3
    refine wa_bipush (v := (-105)) (by decide) ?_
    refine wa_ireturn rfl rfl ?_
    exact ⟨_, rfl, Fs1, (by rw [Fm.gi fs1 (q := 84) (k := 129) rfl rfl]; first | assumption | (((try simp only [vp_in_iff, Int32.lt_iff_toInt_lt, Int32.le_iff_toInt_le, ← Int32.toInt_inj, Int32.reduceToInt, n_1, n_2, n_8, Int32.toNatClampNeg, Int64.lt_iff_toInt_lt, Int64.le_iff_toInt_le, ← Int64.toInt_inj, Int64.reduceToInt, Int32.toInt_toInt64, lg_cmp_ge, lg_cmp_le, lg_cmp_gt, lg_cmp_lt, lg_cmp_eq, Bool.false_eq_true, Bool.true_eq_false, reduceCtorEq, false_iff, true_iff, iff_true, iff_false, and_true, true_and, and_false, false_and, reduceIte, ite_true, ite_false, eq_self] at *)) <;> omega)), (by rw [Fm.gi fs1 (q := 84) (k := 131) rfl rfl]; first | assumption | (((try simp only [vp_in_iff, Int32.lt_iff_toInt_lt, Int32.le_iff_toInt_le, ← Int32.toInt_inj, Int32.reduceToInt, n_1, n_2, n_8, Int32.toNatClampNeg, Int64.lt_iff_toInt_lt, Int64.le_iff_toInt_le, ← Int64.toInt_inj, Int64.reduceToInt, Int32.toInt_toInt64, lg_cmp_ge, lg_cmp_le, lg_cmp_gt, lg_cmp_lt, lg_cmp_eq, Bool.false_eq_true, Bool.true_eq_false, reduceCtorEq, false_iff, true_iff, iff_true, iff_false, and_true, true_and, and_false, false_and, reduceIte, ite_true, ite_false, eq_self] at *)) <;> omega)), (by rw [Fm.gi fs1 (q := 84) (k := 156) rfl rfl]; first | assumption | (((try simp only [vp_in_iff, Int32.lt_iff_toInt_lt, Int32.le_iff_toInt_le, ← Int32.toInt_inj, Int32.reduceToInt, n_1, n_2, n_8, Int32.toNatClampNeg, Int64.lt_iff_toInt_lt, Int64.le_iff_toInt_le, ← Int64.toInt_inj, Int64.reduceToInt, Int32.toInt_toInt64, lg_cmp_ge, lg_cmp_le, lg_cmp_gt, lg_cmp_lt, lg_cmp_eq, Bool.false_eq_true, Bool.true_eq_false, reduceCtorEq, false_iff, true_iff, iff_true, iff_false, and_true, true_and, and_false, false_and, reduceIte, ite_true, ite_false, eq_self] at *)) <;> omega)), (by rw [Fm.gi fs1 (q := 84) (k := 157) rfl rfl]; first | assumption | (((try simp only [vp_in_iff, Int32.lt_iff_toInt_lt, Int32.le_iff_toInt_le, ← Int32.toInt_inj, Int32.reduceToInt, n_1, n_2, n_8, Int32.toNatClampNeg, Int64.lt_iff_toInt_lt, Int64.le_iff_toInt_le, ← Int64.toInt_inj, Int64.reduceToInt, Int32.toInt_toInt64, lg_cmp_ge, lg_cmp_le, lg_cmp_gt, lg_cmp_lt, lg_cmp_eq, Bool.false_eq_true, Bool.true_eq_false, reduceCtorEq, false_iff, true_iff, iff_true, iff_false, and_true, true_and, and_false, false_and, reduceIte, ite_true, ite_false, eq_self] at *)) <;> omega)), (ar_fm fs1 rfl rfl A_109), (ar_fm fs1 rfl rfl A_110), (ar_fm fs1 rfl rfl A_112), (ar_fm fs1 rfl rfl A_128), (ar_fm fs1 rfl rfl A_134), (ar_fm fs1 rfl rfl A_135), (ar_fm fs1 rfl rfl A_136), (ar_fm fs1 rfl rfl A_137), (INW_of (fun k => Fm.gb fs1 (q := 133) (k := k) rfl rfl) (fun k => Fm.gi fs1 (q := 156) (k := k) rfl rfl) (Fm.gi fs1 (q := 84) (k := 119) rfl rfl) (fun k => Fm.gi fs1 (q := 157) (k := k) rfl rfl) (fun k => Fm.gi fs1 (q := 158) (k := k) rfl rfl) (fun k => Fm.gi fs1 (q := 159) (k := k) rfl rfl) (fun k => Fm.gi fs1 (q := 135) (k := k) rfl rfl) (fun k => Fm.gi fs1 (q := 136) (k := k) rfl rfl) (fun k => Fm.gi fs1 (q := 137) (k := k) rfl rfl) P_INW), (WOK_of (fun k => Fm.gi fs1 (q := 135) (k := k) rfl rfl) (fun k => Fm.gi fs1 (q := 136) (k := k) rfl rfl) P_WOK), (CHA_of (fun k => Fm.gi fs1 (q := 126) (k := k) rfl rfl) (Fm.gi fs1 (q := 84) (k := 129) rfl rfl) P_CHA), trivial⟩
set_option maxHeartbeats 4000000 in
theorem sp_X12_half (G : kG9) {d : Nat} (hd : 1 ≤ d) (σ : St) (a0 : Int32) (a1 : Int32) (r1 : 0 ≤ (gi σ 84 156).toInt ∧ (gi σ 84 156).toInt ≤ 3000) (r2 : 0 ≤ (gi σ 84 157).toInt ∧ (gi σ 84 157).toInt ≤ 16) : Ct G M_X12_half d [.ref 84, .int a0, .int a1] σ (fun r σ' => ∃ x : Int32, r = some (.int x) ∧ Fm [] [0] σ σ' ∧ True) := by
  refine wa_start (by decide) rfl (Nat.le_of_ble_eq_true rfl) (lv := [(0, .ref 84), (1, .int a0), (2, .int a1)]) rfl o_X12_half_0 rfl ?_
  have ua0 := Int32.toInt_lt a0
  have wa0 := Int32.le_toInt a0
  have ua1 := Int32.toInt_lt a1
  have wa1 := Int32.le_toInt a1
  refine wa_aload_n (i := 0) rfl rfl ?_
  refine wa_iload_n (i := 1) rfl rfl ?_
  refine wa_i2l ?_
  refine wa_lconst (v := 0) (by decide) ?_
  refine wa_aload_n (i := 0) rfl rfl ?_
  refine wa_geti ck_12 fl_12_1061 ly_84 ?_
  refine wa_iconst (v := 1) (by decide) ?_
  refine wa_isub ?_
  refine wa_top (fun v1 hv1 => ?_)
  have tv1 := i_subT hv1
  clear hv1
  refine wa_i2l ?_
  refine wa_Si (d9 := d - 1) [.long _, .long _, .long _] [.ref 84] (sp_X12_in G (d := d - 1) (by omega) σ _ _ _) (rfl) rfl rfl (zr (by omega)) mk_X12_in ml_12_504 (Nat.le_of_ble_eq_true rfl) (fun x3 s2 hs2 => ?_)
  obtain ⟨bx3, ex3, zs2, cx3_1, -⟩ := pB hs2
  subst ex3
  subst zs2
  refine wa_if_eq o_X12_half_37 (by decide) (fun h4 => ?_) (fun h4 => ?_)
  · replace h4 := bI_f (b := bx3) (rfl) h4
    have uh4_0 := iff_f cx3_1 h4
    refine wa_iconst (v := 1) (by decide) ?_
    refine wa_puti ck_12 fl_12_3 ly_84 (fun s5 hs5 => ?_)
    have Fs5 : Fm [] [0] σ s5 := by rw [hs5]; exact Fm.si (Fm.rf [] [0] σ) rfl
    refine wa_aload_n (i := 0) rfl rfl ?_
    refine wa_geti ck_12 fl_12_3 ly_84 ?_
    refine wa_rw (nxe_gi_si hs5) ?_
    refine wa_if_le o_X12_half_52 (by decide) (fun h6 => ?_) (fun h6 => ?_)
    · refine wa_aload_n (i := 0) rfl rfl ?_
      refine wa_getr ck_12 fl_12_388 ly_84 rf_84_154 ?_
      refine wa_bipush (v := 16) (by decide) ?_
      refine wa_iload_n (i := 1) rfl rfl ?_
      refine wa_imul ?_
      refine wa_top (fun v7 hv7 => ?_)
      have tv7 := i_mulT hv7
      clear hv7
      refine wa_iload_n (i := 2) rfl rfl ?_
      refine wa_iadd ?_
      refine wa_top (fun v8 hv8 => ?_)
      have tv8 := i_addT hv8
      clear hv8
      refine wa_iald ly_107 (by ((try simp only [vp_in_iff, Int32.lt_iff_toInt_lt, Int32.le_iff_toInt_le, ← Int32.toInt_inj, Int32.reduceToInt, n_1, n_2, n_8, Int32.toNatClampNeg, Int64.lt_iff_toInt_lt, Int64.le_iff_toInt_le, ← Int64.toInt_inj, Int64.reduceToInt, Int32.toInt_toInt64, lg_cmp_ge, lg_cmp_le, lg_cmp_gt, lg_cmp_lt, lg_cmp_eq, Bool.false_eq_true, Bool.true_eq_false, reduceCtorEq, false_iff, true_iff, iff_true, iff_false, and_true, true_and, and_false, false_and, reduceIte, ite_true, ite_false, eq_self] at *)) <;> omega) ?_
      refine wa_ireturn rfl rfl ?_
      exact ⟨_, rfl, Fs5, trivial⟩
    · refine wa_iconst (v := 0) (by decide) ?_
      refine wa_goto o_X12_half_63 (by decide) ?_
      refine wa_ireturn rfl rfl ?_
      exact ⟨_, rfl, Fs5, trivial⟩
  · replace h4 := bI_t (b := bx3) (rfl) h4
    have uh4_0 := iff_t cx3_1 h4
    refine wa_iload_n (i := 2) rfl rfl ?_
    refine wa_i2l ?_
    refine wa_lconst (v := 0) (by decide) ?_
    refine wa_aload_n (i := 0) rfl rfl ?_
    refine wa_geti ck_12 fl_12_1064 ly_84 ?_
    refine wa_iconst (v := 1) (by decide) ?_
    refine wa_isub ?_
    refine wa_top (fun v9 hv9 => ?_)
    have tv9 := i_subT hv9
    clear hv9
    refine wa_i2l ?_
    refine wa_Si (d9 := d - 1) [.long _, .long _, .long _] [.ref 84] (sp_X12_in G (d := d - 1) (by omega) σ _ _ _) (rfl) rfl rfl (zr (by omega)) mk_X12_in ml_12_504 (Nat.le_of_ble_eq_true rfl) (fun x11 s10 hs10 => ?_)
    obtain ⟨bx11, ex11, zs10, cx11_1, -⟩ := pB hs10
    subst ex11
    subst zs10
    refine wa_if_eq o_X12_half_37 (by decide) (fun h12 => ?_) (fun h12 => ?_)
    · replace h12 := bI_f (b := bx11) (rfl) h12
      have uh12_0 := iff_f cx11_1 h12
      refine wa_iconst (v := 1) (by decide) ?_
      refine wa_puti ck_12 fl_12_3 ly_84 (fun s13 hs13 => ?_)
      have Fs13 : Fm [] [0] σ s13 := by rw [hs13]; exact Fm.si (Fm.rf [] [0] σ) rfl
      refine wa_aload_n (i := 0) rfl rfl ?_
      refine wa_geti ck_12 fl_12_3 ly_84 ?_
      refine wa_rw (nxe_gi_si hs13) ?_
      refine wa_if_le o_X12_half_52 (by decide) (fun h14 => ?_) (fun h14 => ?_)
      · refine wa_aload_n (i := 0) rfl rfl ?_
        refine wa_getr ck_12 fl_12_388 ly_84 rf_84_154 ?_
        refine wa_bipush (v := 16) (by decide) ?_
        refine wa_iload_n (i := 1) rfl rfl ?_
        refine wa_imul ?_
        refine wa_top (fun v15 hv15 => ?_)
        have tv15 := i_mulT hv15
        clear hv15
        refine wa_iload_n (i := 2) rfl rfl ?_
        refine wa_iadd ?_
        refine wa_top (fun v16 hv16 => ?_)
        have tv16 := i_addT hv16
        clear hv16
        refine wa_iald ly_107 (by ((try simp only [vp_in_iff, Int32.lt_iff_toInt_lt, Int32.le_iff_toInt_le, ← Int32.toInt_inj, Int32.reduceToInt, n_1, n_2, n_8, Int32.toNatClampNeg, Int64.lt_iff_toInt_lt, Int64.le_iff_toInt_le, ← Int64.toInt_inj, Int64.reduceToInt, Int32.toInt_toInt64, lg_cmp_ge, lg_cmp_le, lg_cmp_gt, lg_cmp_lt, lg_cmp_eq, Bool.false_eq_true, Bool.true_eq_false, reduceCtorEq, false_iff, true_iff, iff_true, iff_false, and_true, true_and, and_false, false_and, reduceIte, ite_true, ite_false, eq_self] at *)) <;> omega) ?_
        refine wa_ireturn rfl rfl ?_
        exact ⟨_, rfl, Fs13, trivial⟩
      · refine wa_iconst (v := 0) (by decide) ?_
        refine wa_goto o_X12_half_63 (by decide) ?_
        refine wa_ireturn rfl rfl ?_
        exact ⟨_, rfl, Fs13, trivial⟩
    · replace h12 := bI_t (b := bx11) (rfl) h12
      have uh12_0 := iff_t cx11_1 h12
      refine wa_iconst (v := 0) (by decide) ?_
      refine wa_goto o_X12_half_38 (by decide) ?_
      refine wa_puti ck_12 fl_12_3 ly_84 (fun s17 hs17 => ?_)
      have Fs17 : Fm [] [0] σ s17 := by rw [hs17]; exact Fm.si (Fm.rf [] [0] σ) rfl
      refine wa_aload_n (i := 0) rfl rfl ?_
      refine wa_geti ck_12 fl_12_3 ly_84 ?_
      refine wa_rw (nxe_gi_si hs17) ?_
      refine wa_if_le o_X12_half_52 (by decide) (fun h18 => ?_) (fun h18 => ?_)
      · refine wa_aload_n (i := 0) rfl rfl ?_
        refine wa_getr ck_12 fl_12_388 ly_84 rf_84_154 ?_
        refine wa_bipush (v := 16) (by decide) ?_
        refine wa_iload_n (i := 1) rfl rfl ?_
        refine wa_imul ?_
        refine wa_top (fun v19 hv19 => ?_)
        have tv19 := i_mulT hv19
        clear hv19
        refine wa_iload_n (i := 2) rfl rfl ?_
        refine wa_iadd ?_
        refine wa_top (fun v20 hv20 => ?_)
        have tv20 := i_addT hv20
        clear hv20
        refine wa_iald ly_107 (by ((try simp only [vp_in_iff, Int32.lt_iff_toInt_lt, Int32.le_iff_toInt_le, ← Int32.toInt_inj, Int32.reduceToInt, n_1, n_2, n_8, Int32.toNatClampNeg, Int64.lt_iff_toInt_lt, Int64.le_iff_toInt_le, ← Int64.toInt_inj, Int64.reduceToInt, Int32.toInt_toInt64, lg_cmp_ge, lg_cmp_le, lg_cmp_gt, lg_cmp_lt, lg_cmp_eq, Bool.false_eq_true, Bool.true_eq_false, reduceCtorEq, false_iff, true_iff, iff_true, iff_false, and_true, true_and, and_false, false_and, reduceIte, ite_true, ite_false, eq_self] at *)) <;> omega) ?_
        refine wa_ireturn rfl rfl ?_
        exact ⟨_, rfl, Fs17, trivial⟩
      · refine wa_iconst (v := 0) (by decide) ?_
        refine wa_goto o_X12_half_63 (by decide) ?_
        refine wa_ireturn rfl rfl ?_
        exact ⟨_, rfl, Fs17, trivial⟩
set_option maxHeartbeats 4000000 in
theorem sp_X12_takes (G : kG9) {d : Nat} (hd : 1 ≤ d) (σ : St) (a0 : Int32) (a1 : Int32) (r1 : 0 ≤ (gi σ 84 156).toInt ∧ (gi σ 84 156).toInt ≤ 3000) (r2 : 0 ≤ (gi σ 84 157).toInt ∧ (gi σ 84 157).toInt ≤ 16) : Ct G M_X12_takes d [.ref 84, .int a0, .int a1] σ (fun r σ' => ∃ x : Int32, r = some (.int x) ∧ Fm [] [0] σ σ' ∧ True) := by
  refine wa_start (by decide) rfl (Nat.le_of_ble_eq_true rfl) (lv := [(0, .ref 84), (1, .int a0), (2, .int a1)]) rfl o_X12_takes_0 rfl ?_
  have ua0 := Int32.toInt_lt a0
  have wa0 := Int32.le_toInt a0
  have ua1 := Int32.toInt_lt a1
  have wa1 := Int32.le_toInt a1
  refine wa_aload_n (i := 0) rfl rfl ?_
  refine wa_iload_n (i := 1) rfl rfl ?_
  refine wa_i2l ?_
  refine wa_lconst (v := 0) (by decide) ?_
  refine wa_aload_n (i := 0) rfl rfl ?_
  refine wa_geti ck_12 fl_12_1061 ly_84 ?_
  refine wa_iconst (v := 1) (by decide) ?_
  refine wa_isub ?_
  refine wa_top (fun v1 hv1 => ?_)
  have tv1 := i_subT hv1
  clear hv1
  refine wa_i2l ?_
  refine wa_Si (d9 := d - 1) [.long _, .long _, .long _] [.ref 84] (sp_X12_in G (d := d - 1) (by omega) σ _ _ _) (rfl) rfl rfl (zr (by omega)) mk_X12_in ml_12_504 (Nat.le_of_ble_eq_true rfl) (fun x3 s2 hs2 => ?_)
  obtain ⟨bx3, ex3, zs2, cx3_1, -⟩ := pB hs2
  subst ex3
  subst zs2
  refine wa_if_eq o_X12_takes_37 (by decide) (fun h4 => ?_) (fun h4 => ?_)
  · replace h4 := bI_f (b := bx3) (rfl) h4
    have uh4_0 := iff_f cx3_1 h4
    refine wa_iconst (v := 1) (by decide) ?_
    refine wa_puti ck_12 fl_12_3 ly_84 (fun s5 hs5 => ?_)
    have Fs5 : Fm [] [0] σ s5 := by rw [hs5]; exact Fm.si (Fm.rf [] [0] σ) rfl
    refine wa_aload_n (i := 0) rfl rfl ?_
    refine wa_geti ck_12 fl_12_3 ly_84 ?_
    refine wa_rw (nxe_gi_si hs5) ?_
    refine wa_if_le o_X12_takes_52 (by decide) (fun h6 => ?_) (fun h6 => ?_)
    · refine wa_aload_n (i := 0) rfl rfl ?_
      refine wa_getr ck_12 fl_12_391 ly_84 rf_84_155 ?_
      refine wa_iload_n (i := 1) rfl rfl ?_
      refine wa_iald ly_106 (by ((try simp only [vp_in_iff, Int32.lt_iff_toInt_lt, Int32.le_iff_toInt_le, ← Int32.toInt_inj, Int32.reduceToInt, n_1, n_2, n_8, Int32.toNatClampNeg, Int64.lt_iff_toInt_lt, Int64.le_iff_toInt_le, ← Int64.toInt_inj, Int64.reduceToInt, Int32.toInt_toInt64, lg_cmp_ge, lg_cmp_le, lg_cmp_gt, lg_cmp_lt, lg_cmp_eq, Bool.false_eq_true, Bool.true_eq_false, reduceCtorEq, false_iff, true_iff, iff_true, iff_false, and_true, true_and, and_false, false_and, reduceIte, ite_true, ite_false, eq_self] at *)) <;> omega) ?_
      refine wa_iload_n (i := 2) rfl rfl ?_
      refine wa_ishr ?_
      refine wa_top (fun v7 hv7 => ?_)
      clear hv7
      refine wa_iconst (v := 1) (by decide) ?_
      refine wa_iand ?_
      refine wa_top (fun v8 hv8 => ?_)
      have tv8 := i_andT hv8
      clear hv8
      refine wa_ireturn rfl rfl ?_
      exact ⟨_, rfl, Fs5, trivial⟩
    · refine wa_iconst (v := 0) (by decide) ?_
      refine wa_goto o_X12_takes_62 (by decide) ?_
      refine wa_ireturn rfl rfl ?_
      exact ⟨_, rfl, Fs5, trivial⟩
  · replace h4 := bI_t (b := bx3) (rfl) h4
    have uh4_0 := iff_t cx3_1 h4
    refine wa_iload_n (i := 2) rfl rfl ?_
    refine wa_i2l ?_
    refine wa_lconst (v := 0) (by decide) ?_
    refine wa_aload_n (i := 0) rfl rfl ?_
    refine wa_geti ck_12 fl_12_1064 ly_84 ?_
    refine wa_iconst (v := 1) (by decide) ?_
    refine wa_isub ?_
    refine wa_top (fun v9 hv9 => ?_)
    have tv9 := i_subT hv9
    clear hv9
    refine wa_i2l ?_
    refine wa_Si (d9 := d - 1) [.long _, .long _, .long _] [.ref 84] (sp_X12_in G (d := d - 1) (by omega) σ _ _ _) (rfl) rfl rfl (zr (by omega)) mk_X12_in ml_12_504 (Nat.le_of_ble_eq_true rfl) (fun x11 s10 hs10 => ?_)
    obtain ⟨bx11, ex11, zs10, cx11_1, -⟩ := pB hs10
    subst ex11
    subst zs10
    refine wa_if_eq o_X12_takes_37 (by decide) (fun h12 => ?_) (fun h12 => ?_)
    · replace h12 := bI_f (b := bx11) (rfl) h12
      have uh12_0 := iff_f cx11_1 h12
      refine wa_iconst (v := 1) (by decide) ?_
      refine wa_puti ck_12 fl_12_3 ly_84 (fun s13 hs13 => ?_)
      have Fs13 : Fm [] [0] σ s13 := by rw [hs13]; exact Fm.si (Fm.rf [] [0] σ) rfl
      refine wa_aload_n (i := 0) rfl rfl ?_
      refine wa_geti ck_12 fl_12_3 ly_84 ?_
      refine wa_rw (nxe_gi_si hs13) ?_
      refine wa_if_le o_X12_takes_52 (by decide) (fun h14 => ?_) (fun h14 => ?_)
      · refine wa_aload_n (i := 0) rfl rfl ?_
        refine wa_getr ck_12 fl_12_391 ly_84 rf_84_155 ?_
        refine wa_iload_n (i := 1) rfl rfl ?_
        refine wa_iald ly_106 (by ((try simp only [vp_in_iff, Int32.lt_iff_toInt_lt, Int32.le_iff_toInt_le, ← Int32.toInt_inj, Int32.reduceToInt, n_1, n_2, n_8, Int32.toNatClampNeg, Int64.lt_iff_toInt_lt, Int64.le_iff_toInt_le, ← Int64.toInt_inj, Int64.reduceToInt, Int32.toInt_toInt64, lg_cmp_ge, lg_cmp_le, lg_cmp_gt, lg_cmp_lt, lg_cmp_eq, Bool.false_eq_true, Bool.true_eq_false, reduceCtorEq, false_iff, true_iff, iff_true, iff_false, and_true, true_and, and_false, false_and, reduceIte, ite_true, ite_false, eq_self] at *)) <;> omega) ?_
        refine wa_iload_n (i := 2) rfl rfl ?_
        refine wa_ishr ?_
        refine wa_top (fun v15 hv15 => ?_)
        clear hv15
        refine wa_iconst (v := 1) (by decide) ?_
        refine wa_iand ?_
        refine wa_top (fun v16 hv16 => ?_)
        have tv16 := i_andT hv16
        clear hv16
        refine wa_ireturn rfl rfl ?_
        exact ⟨_, rfl, Fs13, trivial⟩
      · refine wa_iconst (v := 0) (by decide) ?_
        refine wa_goto o_X12_takes_62 (by decide) ?_
        refine wa_ireturn rfl rfl ?_
        exact ⟨_, rfl, Fs13, trivial⟩
    · replace h12 := bI_t (b := bx11) (rfl) h12
      have uh12_0 := iff_t cx11_1 h12
      refine wa_iconst (v := 0) (by decide) ?_
      refine wa_goto o_X12_takes_38 (by decide) ?_
      refine wa_puti ck_12 fl_12_3 ly_84 (fun s17 hs17 => ?_)
      have Fs17 : Fm [] [0] σ s17 := by rw [hs17]; exact Fm.si (Fm.rf [] [0] σ) rfl
      refine wa_aload_n (i := 0) rfl rfl ?_
      refine wa_geti ck_12 fl_12_3 ly_84 ?_
      refine wa_rw (nxe_gi_si hs17) ?_
      refine wa_if_le o_X12_takes_52 (by decide) (fun h18 => ?_) (fun h18 => ?_)
      · refine wa_aload_n (i := 0) rfl rfl ?_
        refine wa_getr ck_12 fl_12_391 ly_84 rf_84_155 ?_
        refine wa_iload_n (i := 1) rfl rfl ?_
        refine wa_iald ly_106 (by ((try simp only [vp_in_iff, Int32.lt_iff_toInt_lt, Int32.le_iff_toInt_le, ← Int32.toInt_inj, Int32.reduceToInt, n_1, n_2, n_8, Int32.toNatClampNeg, Int64.lt_iff_toInt_lt, Int64.le_iff_toInt_le, ← Int64.toInt_inj, Int64.reduceToInt, Int32.toInt_toInt64, lg_cmp_ge, lg_cmp_le, lg_cmp_gt, lg_cmp_lt, lg_cmp_eq, Bool.false_eq_true, Bool.true_eq_false, reduceCtorEq, false_iff, true_iff, iff_true, iff_false, and_true, true_and, and_false, false_and, reduceIte, ite_true, ite_false, eq_self] at *)) <;> omega) ?_
        refine wa_iload_n (i := 2) rfl rfl ?_
        refine wa_ishr ?_
        refine wa_top (fun v19 hv19 => ?_)
        clear hv19
        refine wa_iconst (v := 1) (by decide) ?_
        refine wa_iand ?_
        refine wa_top (fun v20 hv20 => ?_)
        have tv20 := i_andT hv20
        clear hv20
        refine wa_ireturn rfl rfl ?_
        exact ⟨_, rfl, Fs17, trivial⟩
      · refine wa_iconst (v := 0) (by decide) ?_
        refine wa_goto o_X12_takes_62 (by decide) ?_
        refine wa_ireturn rfl rfl ?_
        exact ⟨_, rfl, Fs17, trivial⟩
set_option maxHeartbeats 4000000 in
theorem sp_X12_isRow (G : kG9) {d : Nat} (hd : 0 ≤ d) (σ : St) (a0 : Int32) (p1 : 0 ≤ a0.toInt ∧ a0.toInt < 600) : Ct G M_X12_isRow d [.ref 84, .int a0] σ (fun r σ' => ∃ x : Bool, r = some (.int (bI x)) ∧ σ = σ' ∧ True) := by
  refine wa_start (by decide) rfl (Nat.le_of_ble_eq_true rfl) (lv := [(0, .ref 84), (1, .int a0)]) rfl o_X12_isRow_0 rfl ?_
  have ua0 := Int32.toInt_lt a0
  have wa0 := Int32.le_toInt a0
  refine wa_aload_n (i := 0) rfl rfl ?_
  refine wa_getr ck_12 fl_12_397 ly_84 rf_84_159 ?_
  refine wa_iload_n (i := 1) rfl rfl ?_
  refine wa_lald ly_104 (by ((try simp only [vp_in_iff, Int32.lt_iff_toInt_lt, Int32.le_iff_toInt_le, ← Int32.toInt_inj, Int32.reduceToInt, n_1, n_2, n_8, Int32.toNatClampNeg, Int64.lt_iff_toInt_lt, Int64.le_iff_toInt_le, ← Int64.toInt_inj, Int64.reduceToInt, Int32.toInt_toInt64, lg_cmp_ge, lg_cmp_le, lg_cmp_gt, lg_cmp_lt, lg_cmp_eq, Bool.false_eq_true, Bool.true_eq_false, reduceCtorEq, false_iff, true_iff, iff_true, iff_false, and_true, true_and, and_false, false_and, reduceIte, ite_true, ite_false, eq_self] at *)) <;> omega) ?_
  refine wa_aload_n (i := 0) rfl rfl ?_
  refine wa_getl ck_12 fl_12_736 ly_84 ?_
  refine wa_lcmp ?_
  refine wa_top (fun v1 hv1 => ?_)
  have tv1 := i_cmpT hv1
  clear hv1
  refine wa_if_ne o_X12_isRow_18 (by decide) (fun h2 => ?_) (fun h2 => ?_)
  · refine wa_iconst (v := 0) (by decide) ?_
    refine wa_istore_nD (lv' := [(2, .int (bI false)), (0, .ref 84), (1, .int a0)]) (i := 2) rfl (by decide) rfl ?_
    refine wa_iconst (v := 0) (by decide) ?_
    refine wa_istore_nD (lv' := [(3, .int 0), (2, .int (bI false)), (0, .ref 84), (1, .int a0)]) (i := 3) rfl (by decide) rfl ?_
    refine wa_pick [2, 3, 1, 0] rfl ?_
    have hi4 : ∀ (n9_22 : Nat) (l2 : Bool) (l3 : Int32), ((0 ≤ l3.toInt) ∧ (True)) → (2147483647 - l3.toInt).toNat = n9_22 → WA G M_X12_isRow (ZM G M_X12_isRow d (fun r σ' => ∃ x : Bool, r = some (.int (bI x)) ∧ σ = σ' ∧ True)) B_X12_isRow_22 [(0, .ref 84), (1, .int a0), (2, .int (bI l2)), (3, .int l3)] [] σ := by
      intro n9_22
      induction n9_22 using Nat.strongRecOn with
      | _ n9_22 ih3 =>
        intro l2 l3  i9 m9_22
        obtain ⟨jhi4_0, -⟩ := i9
        have ul3 := Int32.toInt_lt l3
        have wl3 := Int32.le_toInt l3
        refine wa_iload_n (i := 3) rfl rfl ?_
        refine wa_iconst (v := 4) (by decide) ?_
        refine wa_icmp_ge o_X12_isRow_63 (by decide) (fun h5 => ?_) (fun h5 => ?_)
        · refine wa_iload_n (i := 2) rfl rfl ?_
          refine wa_zreturn l2 (rfl) rfl rfl ?_
          exact ⟨_, rfl, rfl, trivial⟩
        · have mh5 := nle_mx h5
          refine wa_iload_n (i := 2) rfl rfl ?_
          refine wa_if_eq o_X12_isRow_55 (by decide) (fun h6 => ?_) (fun h6 => ?_)
          · replace h6 := bI_f (b := l2) (rfl) h6
            refine wa_iconst (v := 0) (by decide) ?_
            refine wa_istore_nD (lv' := [(2, .int (bI false)), (0, .ref 84), (1, .int a0), (3, .int l3)]) (i := 2) rfl (by decide) rfl ?_
            refine wa_iinc (v := (1)) (lv' := fun y7 => [(3, .int y7), (2, .int (bI false)), (0, .ref 84), (1, .int a0)]) (by decide) rfl (by decide) (fun _ => rfl) (fun y7 hy7 => ?_)
            have ty7 := i_addT hy7.symm
            clear hy7
            refine wa_goto o_X12_isRow_22 (by decide) ?_
            refine wa_pick [2, 3, 1, 0] rfl ?_
            exact ih3 _ (by ((try simp only [vp_in_iff, Int32.lt_iff_toInt_lt, Int32.le_iff_toInt_le, ← Int32.toInt_inj, Int32.reduceToInt, n_1, n_2, n_8, Int32.toNatClampNeg, Int64.lt_iff_toInt_lt, Int64.le_iff_toInt_le, ← Int64.toInt_inj, Int64.reduceToInt, Int32.toInt_toInt64, lg_cmp_ge, lg_cmp_le, lg_cmp_gt, lg_cmp_lt, lg_cmp_eq, Bool.false_eq_true, Bool.true_eq_false, reduceCtorEq, false_iff, true_iff, iff_true, iff_false, and_true, true_and, and_false, false_and, reduceIte, ite_true, ite_false, eq_self] at *)) <;> omega) _ _ ⟨(by ((try simp only [vp_in_iff, Int32.lt_iff_toInt_lt, Int32.le_iff_toInt_le, ← Int32.toInt_inj, Int32.reduceToInt, n_1, n_2, n_8, Int32.toNatClampNeg, Int64.lt_iff_toInt_lt, Int64.le_iff_toInt_le, ← Int64.toInt_inj, Int64.reduceToInt, Int32.toInt_toInt64, lg_cmp_ge, lg_cmp_le, lg_cmp_gt, lg_cmp_lt, lg_cmp_eq, Bool.false_eq_true, Bool.true_eq_false, reduceCtorEq, false_iff, true_iff, iff_true, iff_false, and_true, true_and, and_false, false_and, reduceIte, ite_true, ite_false, eq_self] at *)) <;> omega), trivial⟩ rfl
          · replace h6 := bI_t (b := l2) (rfl) h6
            refine wa_aload_n (i := 0) rfl rfl ?_
            refine wa_getr ck_12 fl_12_394 ly_84 rf_84_158 ?_
            refine wa_iconst (v := 4) (by decide) ?_
            refine wa_iload_n (i := 1) rfl rfl ?_
            refine wa_imul ?_
            refine wa_top (fun v8 hv8 => ?_)
            have tv8 := i_mulT hv8
            clear hv8
            refine wa_iload_n (i := 3) rfl rfl ?_
            refine wa_iadd ?_
            refine wa_top (fun v9 hv9 => ?_)
            have tv9 := i_addT hv9
            clear hv9
            refine wa_lald ly_105 (by ((try simp only [vp_in_iff, Int32.lt_iff_toInt_lt, Int32.le_iff_toInt_le, ← Int32.toInt_inj, Int32.reduceToInt, n_1, n_2, n_8, Int32.toNatClampNeg, Int64.lt_iff_toInt_lt, Int64.le_iff_toInt_le, ← Int64.toInt_inj, Int64.reduceToInt, Int32.toInt_toInt64, lg_cmp_ge, lg_cmp_le, lg_cmp_gt, lg_cmp_lt, lg_cmp_eq, Bool.false_eq_true, Bool.true_eq_false, reduceCtorEq, false_iff, true_iff, iff_true, iff_false, and_true, true_and, and_false, false_and, reduceIte, ite_true, ite_false, eq_self] at *)) <;> omega) ?_
            refine wa_aload_n (i := 0) rfl rfl ?_
            refine wa_getr ck_12 fl_12_262 ly_84 rf_84_100 ?_
            refine wa_iload_n (i := 3) rfl rfl ?_
            refine wa_lald ly_147 (by ((try simp only [vp_in_iff, Int32.lt_iff_toInt_lt, Int32.le_iff_toInt_le, ← Int32.toInt_inj, Int32.reduceToInt, n_1, n_2, n_8, Int32.toNatClampNeg, Int64.lt_iff_toInt_lt, Int64.le_iff_toInt_le, ← Int64.toInt_inj, Int64.reduceToInt, Int32.toInt_toInt64, lg_cmp_ge, lg_cmp_le, lg_cmp_gt, lg_cmp_lt, lg_cmp_eq, Bool.false_eq_true, Bool.true_eq_false, reduceCtorEq, false_iff, true_iff, iff_true, iff_false, and_true, true_and, and_false, false_and, reduceIte, ite_true, ite_false, eq_self] at *)) <;> omega) ?_
            refine wa_lcmp ?_
            refine wa_top (fun v10 hv10 => ?_)
            have tv10 := i_cmpT hv10
            clear hv10
            refine wa_if_ne o_X12_isRow_55 (by decide) (fun h11 => ?_) (fun h11 => ?_)
            · refine wa_iconst (v := 0) (by decide) ?_
              refine wa_istore_nD (lv' := [(2, .int (bI false)), (0, .ref 84), (1, .int a0), (3, .int l3)]) (i := 2) rfl (by decide) rfl ?_
              refine wa_iinc (v := (1)) (lv' := fun y12 => [(3, .int y12), (2, .int (bI false)), (0, .ref 84), (1, .int a0)]) (by decide) rfl (by decide) (fun _ => rfl) (fun y12 hy12 => ?_)
              have ty12 := i_addT hy12.symm
              clear hy12
              refine wa_goto o_X12_isRow_22 (by decide) ?_
              refine wa_pick [2, 3, 1, 0] rfl ?_
              exact ih3 _ (by ((try simp only [vp_in_iff, Int32.lt_iff_toInt_lt, Int32.le_iff_toInt_le, ← Int32.toInt_inj, Int32.reduceToInt, n_1, n_2, n_8, Int32.toNatClampNeg, Int64.lt_iff_toInt_lt, Int64.le_iff_toInt_le, ← Int64.toInt_inj, Int64.reduceToInt, Int32.toInt_toInt64, lg_cmp_ge, lg_cmp_le, lg_cmp_gt, lg_cmp_lt, lg_cmp_eq, Bool.false_eq_true, Bool.true_eq_false, reduceCtorEq, false_iff, true_iff, iff_true, iff_false, and_true, true_and, and_false, false_and, reduceIte, ite_true, ite_false, eq_self] at *)) <;> omega) _ _ ⟨(by ((try simp only [vp_in_iff, Int32.lt_iff_toInt_lt, Int32.le_iff_toInt_le, ← Int32.toInt_inj, Int32.reduceToInt, n_1, n_2, n_8, Int32.toNatClampNeg, Int64.lt_iff_toInt_lt, Int64.le_iff_toInt_le, ← Int64.toInt_inj, Int64.reduceToInt, Int32.toInt_toInt64, lg_cmp_ge, lg_cmp_le, lg_cmp_gt, lg_cmp_lt, lg_cmp_eq, Bool.false_eq_true, Bool.true_eq_false, reduceCtorEq, false_iff, true_iff, iff_true, iff_false, and_true, true_and, and_false, false_and, reduceIte, ite_true, ite_false, eq_self] at *)) <;> omega), trivial⟩ rfl
            · refine wa_iconst (v := 1) (by decide) ?_
              refine wa_goto o_X12_isRow_56 (by decide) ?_
              refine wa_istore_nD (lv' := [(2, .int (bI true)), (0, .ref 84), (1, .int a0), (3, .int l3)]) (i := 2) rfl (by decide) rfl ?_
              refine wa_iinc (v := (1)) (lv' := fun y13 => [(3, .int y13), (2, .int (bI true)), (0, .ref 84), (1, .int a0)]) (by decide) rfl (by decide) (fun _ => rfl) (fun y13 hy13 => ?_)
              have ty13 := i_addT hy13.symm
              clear hy13
              refine wa_goto o_X12_isRow_22 (by decide) ?_
              refine wa_pick [2, 3, 1, 0] rfl ?_
              exact ih3 _ (by ((try simp only [vp_in_iff, Int32.lt_iff_toInt_lt, Int32.le_iff_toInt_le, ← Int32.toInt_inj, Int32.reduceToInt, n_1, n_2, n_8, Int32.toNatClampNeg, Int64.lt_iff_toInt_lt, Int64.le_iff_toInt_le, ← Int64.toInt_inj, Int64.reduceToInt, Int32.toInt_toInt64, lg_cmp_ge, lg_cmp_le, lg_cmp_gt, lg_cmp_lt, lg_cmp_eq, Bool.false_eq_true, Bool.true_eq_false, reduceCtorEq, false_iff, true_iff, iff_true, iff_false, and_true, true_and, and_false, false_and, reduceIte, ite_true, ite_false, eq_self] at *)) <;> omega) _ _ ⟨(by ((try simp only [vp_in_iff, Int32.lt_iff_toInt_lt, Int32.le_iff_toInt_le, ← Int32.toInt_inj, Int32.reduceToInt, n_1, n_2, n_8, Int32.toNatClampNeg, Int64.lt_iff_toInt_lt, Int64.le_iff_toInt_le, ← Int64.toInt_inj, Int64.reduceToInt, Int32.toInt_toInt64, lg_cmp_ge, lg_cmp_le, lg_cmp_gt, lg_cmp_lt, lg_cmp_eq, Bool.false_eq_true, Bool.true_eq_false, reduceCtorEq, false_iff, true_iff, iff_true, iff_false, and_true, true_and, and_false, false_and, reduceIte, ite_true, ite_false, eq_self] at *)) <;> omega), trivial⟩ rfl
    exact hi4 _ _ _ ⟨(by ((try simp only [vp_in_iff, Int32.lt_iff_toInt_lt, Int32.le_iff_toInt_le, ← Int32.toInt_inj, Int32.reduceToInt, n_1, n_2, n_8, Int32.toNatClampNeg, Int64.lt_iff_toInt_lt, Int64.le_iff_toInt_le, ← Int64.toInt_inj, Int64.reduceToInt, Int32.toInt_toInt64, lg_cmp_ge, lg_cmp_le, lg_cmp_gt, lg_cmp_lt, lg_cmp_eq, Bool.false_eq_true, Bool.true_eq_false, reduceCtorEq, false_iff, true_iff, iff_true, iff_false, and_true, true_and, and_false, false_and, reduceIte, ite_true, ite_false, eq_self] at *)) <;> omega), trivial⟩ rfl
  · refine wa_iconst (v := 1) (by decide) ?_
    refine wa_goto o_X12_isRow_19 (by decide) ?_
    refine wa_istore_nD (lv' := [(2, .int (bI true)), (0, .ref 84), (1, .int a0)]) (i := 2) rfl (by decide) rfl ?_
    refine wa_iconst (v := 0) (by decide) ?_
    refine wa_istore_nD (lv' := [(3, .int 0), (2, .int (bI true)), (0, .ref 84), (1, .int a0)]) (i := 3) rfl (by decide) rfl ?_
    refine wa_pick [2, 3, 1, 0] rfl ?_
    have hi15 : ∀ (n9_22 : Nat) (l2 : Bool) (l3 : Int32), ((0 ≤ l3.toInt) ∧ (True)) → (2147483647 - l3.toInt).toNat = n9_22 → WA G M_X12_isRow (ZM G M_X12_isRow d (fun r σ' => ∃ x : Bool, r = some (.int (bI x)) ∧ σ = σ' ∧ True)) B_X12_isRow_22 [(0, .ref 84), (1, .int a0), (2, .int (bI l2)), (3, .int l3)] [] σ := by
      intro n9_22
      induction n9_22 using Nat.strongRecOn with
      | _ n9_22 ih14 =>
        intro l2 l3  i9 m9_22
        obtain ⟨jhi15_0, -⟩ := i9
        have ul3 := Int32.toInt_lt l3
        have wl3 := Int32.le_toInt l3
        refine wa_iload_n (i := 3) rfl rfl ?_
        refine wa_iconst (v := 4) (by decide) ?_
        refine wa_icmp_ge o_X12_isRow_63 (by decide) (fun h16 => ?_) (fun h16 => ?_)
        · refine wa_iload_n (i := 2) rfl rfl ?_
          refine wa_zreturn l2 (rfl) rfl rfl ?_
          exact ⟨_, rfl, rfl, trivial⟩
        · have mh16 := nle_mx h16
          refine wa_iload_n (i := 2) rfl rfl ?_
          refine wa_if_eq o_X12_isRow_55 (by decide) (fun h17 => ?_) (fun h17 => ?_)
          · replace h17 := bI_f (b := l2) (rfl) h17
            refine wa_iconst (v := 0) (by decide) ?_
            refine wa_istore_nD (lv' := [(2, .int (bI false)), (0, .ref 84), (1, .int a0), (3, .int l3)]) (i := 2) rfl (by decide) rfl ?_
            refine wa_iinc (v := (1)) (lv' := fun y18 => [(3, .int y18), (2, .int (bI false)), (0, .ref 84), (1, .int a0)]) (by decide) rfl (by decide) (fun _ => rfl) (fun y18 hy18 => ?_)
            have ty18 := i_addT hy18.symm
            clear hy18
            refine wa_goto o_X12_isRow_22 (by decide) ?_
            refine wa_pick [2, 3, 1, 0] rfl ?_
            exact ih14 _ (by ((try simp only [vp_in_iff, Int32.lt_iff_toInt_lt, Int32.le_iff_toInt_le, ← Int32.toInt_inj, Int32.reduceToInt, n_1, n_2, n_8, Int32.toNatClampNeg, Int64.lt_iff_toInt_lt, Int64.le_iff_toInt_le, ← Int64.toInt_inj, Int64.reduceToInt, Int32.toInt_toInt64, lg_cmp_ge, lg_cmp_le, lg_cmp_gt, lg_cmp_lt, lg_cmp_eq, Bool.false_eq_true, Bool.true_eq_false, reduceCtorEq, false_iff, true_iff, iff_true, iff_false, and_true, true_and, and_false, false_and, reduceIte, ite_true, ite_false, eq_self] at *)) <;> omega) _ _ ⟨(by ((try simp only [vp_in_iff, Int32.lt_iff_toInt_lt, Int32.le_iff_toInt_le, ← Int32.toInt_inj, Int32.reduceToInt, n_1, n_2, n_8, Int32.toNatClampNeg, Int64.lt_iff_toInt_lt, Int64.le_iff_toInt_le, ← Int64.toInt_inj, Int64.reduceToInt, Int32.toInt_toInt64, lg_cmp_ge, lg_cmp_le, lg_cmp_gt, lg_cmp_lt, lg_cmp_eq, Bool.false_eq_true, Bool.true_eq_false, reduceCtorEq, false_iff, true_iff, iff_true, iff_false, and_true, true_and, and_false, false_and, reduceIte, ite_true, ite_false, eq_self] at *)) <;> omega), trivial⟩ rfl
          · replace h17 := bI_t (b := l2) (rfl) h17
            refine wa_aload_n (i := 0) rfl rfl ?_
            refine wa_getr ck_12 fl_12_394 ly_84 rf_84_158 ?_
            refine wa_iconst (v := 4) (by decide) ?_
            refine wa_iload_n (i := 1) rfl rfl ?_
            refine wa_imul ?_
            refine wa_top (fun v19 hv19 => ?_)
            have tv19 := i_mulT hv19
            clear hv19
            refine wa_iload_n (i := 3) rfl rfl ?_
            refine wa_iadd ?_
            refine wa_top (fun v20 hv20 => ?_)
            have tv20 := i_addT hv20
            clear hv20
            refine wa_lald ly_105 (by ((try simp only [vp_in_iff, Int32.lt_iff_toInt_lt, Int32.le_iff_toInt_le, ← Int32.toInt_inj, Int32.reduceToInt, n_1, n_2, n_8, Int32.toNatClampNeg, Int64.lt_iff_toInt_lt, Int64.le_iff_toInt_le, ← Int64.toInt_inj, Int64.reduceToInt, Int32.toInt_toInt64, lg_cmp_ge, lg_cmp_le, lg_cmp_gt, lg_cmp_lt, lg_cmp_eq, Bool.false_eq_true, Bool.true_eq_false, reduceCtorEq, false_iff, true_iff, iff_true, iff_false, and_true, true_and, and_false, false_and, reduceIte, ite_true, ite_false, eq_self] at *)) <;> omega) ?_
            refine wa_aload_n (i := 0) rfl rfl ?_
            refine wa_getr ck_12 fl_12_262 ly_84 rf_84_100 ?_
            refine wa_iload_n (i := 3) rfl rfl ?_
            refine wa_lald ly_147 (by ((try simp only [vp_in_iff, Int32.lt_iff_toInt_lt, Int32.le_iff_toInt_le, ← Int32.toInt_inj, Int32.reduceToInt, n_1, n_2, n_8, Int32.toNatClampNeg, Int64.lt_iff_toInt_lt, Int64.le_iff_toInt_le, ← Int64.toInt_inj, Int64.reduceToInt, Int32.toInt_toInt64, lg_cmp_ge, lg_cmp_le, lg_cmp_gt, lg_cmp_lt, lg_cmp_eq, Bool.false_eq_true, Bool.true_eq_false, reduceCtorEq, false_iff, true_iff, iff_true, iff_false, and_true, true_and, and_false, false_and, reduceIte, ite_true, ite_false, eq_self] at *)) <;> omega) ?_
            refine wa_lcmp ?_
            refine wa_top (fun v21 hv21 => ?_)
            have tv21 := i_cmpT hv21
            clear hv21
            refine wa_if_ne o_X12_isRow_55 (by decide) (fun h22 => ?_) (fun h22 => ?_)
            · refine wa_iconst (v := 0) (by decide) ?_
              refine wa_istore_nD (lv' := [(2, .int (bI false)), (0, .ref 84), (1, .int a0), (3, .int l3)]) (i := 2) rfl (by decide) rfl ?_
              refine wa_iinc (v := (1)) (lv' := fun y23 => [(3, .int y23), (2, .int (bI false)), (0, .ref 84), (1, .int a0)]) (by decide) rfl (by decide) (fun _ => rfl) (fun y23 hy23 => ?_)
              have ty23 := i_addT hy23.symm
              clear hy23
              refine wa_goto o_X12_isRow_22 (by decide) ?_
              refine wa_pick [2, 3, 1, 0] rfl ?_
              exact ih14 _ (by ((try simp only [vp_in_iff, Int32.lt_iff_toInt_lt, Int32.le_iff_toInt_le, ← Int32.toInt_inj, Int32.reduceToInt, n_1, n_2, n_8, Int32.toNatClampNeg, Int64.lt_iff_toInt_lt, Int64.le_iff_toInt_le, ← Int64.toInt_inj, Int64.reduceToInt, Int32.toInt_toInt64, lg_cmp_ge, lg_cmp_le, lg_cmp_gt, lg_cmp_lt, lg_cmp_eq, Bool.false_eq_true, Bool.true_eq_false, reduceCtorEq, false_iff, true_iff, iff_true, iff_false, and_true, true_and, and_false, false_and, reduceIte, ite_true, ite_false, eq_self] at *)) <;> omega) _ _ ⟨(by ((try simp only [vp_in_iff, Int32.lt_iff_toInt_lt, Int32.le_iff_toInt_le, ← Int32.toInt_inj, Int32.reduceToInt, n_1, n_2, n_8, Int32.toNatClampNeg, Int64.lt_iff_toInt_lt, Int64.le_iff_toInt_le, ← Int64.toInt_inj, Int64.reduceToInt, Int32.toInt_toInt64, lg_cmp_ge, lg_cmp_le, lg_cmp_gt, lg_cmp_lt, lg_cmp_eq, Bool.false_eq_true, Bool.true_eq_false, reduceCtorEq, false_iff, true_iff, iff_true, iff_false, and_true, true_and, and_false, false_and, reduceIte, ite_true, ite_false, eq_self] at *)) <;> omega), trivial⟩ rfl
            · refine wa_iconst (v := 1) (by decide) ?_
              refine wa_goto o_X12_isRow_56 (by decide) ?_
              refine wa_istore_nD (lv' := [(2, .int (bI true)), (0, .ref 84), (1, .int a0), (3, .int l3)]) (i := 2) rfl (by decide) rfl ?_
              refine wa_iinc (v := (1)) (lv' := fun y24 => [(3, .int y24), (2, .int (bI true)), (0, .ref 84), (1, .int a0)]) (by decide) rfl (by decide) (fun _ => rfl) (fun y24 hy24 => ?_)
              have ty24 := i_addT hy24.symm
              clear hy24
              refine wa_goto o_X12_isRow_22 (by decide) ?_
              refine wa_pick [2, 3, 1, 0] rfl ?_
              exact ih14 _ (by ((try simp only [vp_in_iff, Int32.lt_iff_toInt_lt, Int32.le_iff_toInt_le, ← Int32.toInt_inj, Int32.reduceToInt, n_1, n_2, n_8, Int32.toNatClampNeg, Int64.lt_iff_toInt_lt, Int64.le_iff_toInt_le, ← Int64.toInt_inj, Int64.reduceToInt, Int32.toInt_toInt64, lg_cmp_ge, lg_cmp_le, lg_cmp_gt, lg_cmp_lt, lg_cmp_eq, Bool.false_eq_true, Bool.true_eq_false, reduceCtorEq, false_iff, true_iff, iff_true, iff_false, and_true, true_and, and_false, false_and, reduceIte, ite_true, ite_false, eq_self] at *)) <;> omega) _ _ ⟨(by ((try simp only [vp_in_iff, Int32.lt_iff_toInt_lt, Int32.le_iff_toInt_le, ← Int32.toInt_inj, Int32.reduceToInt, n_1, n_2, n_8, Int32.toNatClampNeg, Int64.lt_iff_toInt_lt, Int64.le_iff_toInt_le, ← Int64.toInt_inj, Int64.reduceToInt, Int32.toInt_toInt64, lg_cmp_ge, lg_cmp_le, lg_cmp_gt, lg_cmp_lt, lg_cmp_eq, Bool.false_eq_true, Bool.true_eq_false, reduceCtorEq, false_iff, true_iff, iff_true, iff_false, and_true, true_and, and_false, false_and, reduceIte, ite_true, ite_false, eq_self] at *)) <;> omega), trivial⟩ rfl
    exact hi15 _ _ _ ⟨(by ((try simp only [vp_in_iff, Int32.lt_iff_toInt_lt, Int32.le_iff_toInt_le, ← Int32.toInt_inj, Int32.reduceToInt, n_1, n_2, n_8, Int32.toNatClampNeg, Int64.lt_iff_toInt_lt, Int64.le_iff_toInt_le, ← Int64.toInt_inj, Int64.reduceToInt, Int32.toInt_toInt64, lg_cmp_ge, lg_cmp_le, lg_cmp_gt, lg_cmp_lt, lg_cmp_eq, Bool.false_eq_true, Bool.true_eq_false, reduceCtorEq, false_iff, true_iff, iff_true, iff_false, and_true, true_and, and_false, false_and, reduceIte, ite_true, ite_false, eq_self] at *)) <;> omega), trivial⟩ rfl
set_option maxHeartbeats 4000000 in
theorem sp_X12_addRow (G : kG9) {d : Nat} (hd : 0 ≤ d) (σ : St) (r1 : 0 ≤ (gi σ 84 160).toInt ∧ (gi σ 84 160).toInt ≤ 599) : Ct G M_X12_addRow d [.ref 84] σ (fun r σ' => Fm [104, 105] [160] σ σ' ∧ ((gi σ' 84 160).toInt = (gi σ 84 160).toInt + 1) ∧ True) := by
  refine wa_start (by decide) rfl (Nat.le_of_ble_eq_true rfl) (lv := [(0, .ref 84)]) rfl o_X12_addRow_0 rfl ?_
  refine wa_iconst (v := 0) (by decide) ?_
  refine wa_istore_nD (lv' := [(1, .int 0), (0, .ref 84)]) (i := 1) rfl (by decide) rfl ?_
  refine wa_pick [1, 0] rfl ?_
  have hi3 : ∀ (n9_2 : Nat) (l1 : Int32) (s1 : St), ((Fm [104, 105] [160] σ s1) ∧ (gi s1 84 160 = gi σ 84 160) ∧ (gl s1 84 101 = gl σ 84 101) ∧ (0 ≤ l1.toInt) ∧ (True)) → (2147483647 - l1.toInt).toNat = n9_2 → WA G M_X12_addRow (ZM G M_X12_addRow d (fun r σ' => Fm [104, 105] [160] σ σ' ∧ ((gi σ' 84 160).toInt = (gi σ 84 160).toInt + 1) ∧ True)) B_X12_addRow_2 [(0, .ref 84), (1, .int l1)] [] s1 := by
    intro n9_2
    induction n9_2 using Nat.strongRecOn with
    | _ n9_2 ih2 =>
      intro l1 s1 i9 m9_2
      obtain ⟨Fs1, khi3_0, khi3_1, jhi3_0, -⟩ := i9
      have ul1 := Int32.toInt_lt l1
      have wl1 := Int32.le_toInt l1
      refine wa_iload_n (i := 1) rfl rfl ?_
      refine wa_iconst (v := 4) (by decide) ?_
      refine wa_icmp_ge o_X12_addRow_32 (by decide) (fun h4 => ?_) (fun h4 => ?_)
      · refine wa_aload_n (i := 0) rfl rfl ?_
        refine wa_getr ck_12 fl_12_397 ly_84 rf_84_159 ?_
        refine wa_aload_n (i := 0) rfl rfl ?_
        refine wa_geti ck_12 fl_12_1067 ly_84 ?_
        refine wa_rw (khi3_0) ?_
        refine wa_aload_n (i := 0) rfl rfl ?_
        refine wa_getl ck_12 fl_12_736 ly_84 ?_
        refine wa_rwl (khi3_1) ?_
        refine wa_last ly_104 (by ((try simp only [vp_in_iff, Int32.lt_iff_toInt_lt, Int32.le_iff_toInt_le, ← Int32.toInt_inj, Int32.reduceToInt, n_1, n_2, n_8, Int32.toNatClampNeg, Int64.lt_iff_toInt_lt, Int64.le_iff_toInt_le, ← Int64.toInt_inj, Int64.reduceToInt, Int32.toInt_toInt64, lg_cmp_ge, lg_cmp_le, lg_cmp_gt, lg_cmp_lt, lg_cmp_eq, Bool.false_eq_true, Bool.true_eq_false, reduceCtorEq, false_iff, true_iff, iff_true, iff_false, and_true, true_and, and_false, false_and, reduceIte, ite_true, ite_false, eq_self] at *)) <;> omega) (fun s5 hs5 => ?_)
        have Fs5 : Fm [104, 105] [160] σ s5 := by rw [hs5]; exact Fm.sl Fs1 rfl
        refine wa_aload_n (i := 0) rfl rfl ?_
        refine wa_dup rfl ?_
        refine wa_geti ck_12 fl_12_1067 ly_84 ?_
        refine wa_rw ((nx_gi_sl hs5).trans (khi3_0)) ?_
        refine wa_iconst (v := 1) (by decide) ?_
        refine wa_iadd ?_
        refine wa_top (fun v6 hv6 => ?_)
        have tv6 := i_addT hv6
        clear hv6
        refine wa_puti ck_12 fl_12_1067 ly_84 (fun s7 hs7 => ?_)
        have Fs7 : Fm [104, 105] [160] σ s7 := by rw [hs7]; exact Fm.si Fs5 rfl
        refine wa_return (st := []) rfl rfl ?_
        exact ⟨Fs7, (by rw [nxe_gi_si hs7]; first | assumption | (((try simp only [vp_in_iff, Int32.lt_iff_toInt_lt, Int32.le_iff_toInt_le, ← Int32.toInt_inj, Int32.reduceToInt, n_1, n_2, n_8, Int32.toNatClampNeg, Int64.lt_iff_toInt_lt, Int64.le_iff_toInt_le, ← Int64.toInt_inj, Int64.reduceToInt, Int32.toInt_toInt64, lg_cmp_ge, lg_cmp_le, lg_cmp_gt, lg_cmp_lt, lg_cmp_eq, Bool.false_eq_true, Bool.true_eq_false, reduceCtorEq, false_iff, true_iff, iff_true, iff_false, and_true, true_and, and_false, false_and, reduceIte, ite_true, ite_false, eq_self] at *)) <;> omega)), trivial⟩
      · have mh4 := nle_mx h4
        refine wa_aload_n (i := 0) rfl rfl ?_
        refine wa_getr ck_12 fl_12_394 ly_84 rf_84_158 ?_
        refine wa_iconst (v := 4) (by decide) ?_
        refine wa_aload_n (i := 0) rfl rfl ?_
        refine wa_geti ck_12 fl_12_1067 ly_84 ?_
        refine wa_rw (khi3_0) ?_
        refine wa_imul ?_
        refine wa_top (fun v8 hv8 => ?_)
        have tv8 := i_mulT hv8
        clear hv8
        refine wa_iload_n (i := 1) rfl rfl ?_
        refine wa_iadd ?_
        refine wa_top (fun v9 hv9 => ?_)
        have tv9 := i_addT hv9
        clear hv9
        refine wa_aload_n (i := 0) rfl rfl ?_
        refine wa_getr ck_12 fl_12_262 ly_84 rf_84_100 ?_
        refine wa_iload_n (i := 1) rfl rfl ?_
        refine wa_lald ly_147 (by ((try simp only [vp_in_iff, Int32.lt_iff_toInt_lt, Int32.le_iff_toInt_le, ← Int32.toInt_inj, Int32.reduceToInt, n_1, n_2, n_8, Int32.toNatClampNeg, Int64.lt_iff_toInt_lt, Int64.le_iff_toInt_le, ← Int64.toInt_inj, Int64.reduceToInt, Int32.toInt_toInt64, lg_cmp_ge, lg_cmp_le, lg_cmp_gt, lg_cmp_lt, lg_cmp_eq, Bool.false_eq_true, Bool.true_eq_false, reduceCtorEq, false_iff, true_iff, iff_true, iff_false, and_true, true_and, and_false, false_and, reduceIte, ite_true, ite_false, eq_self] at *)) <;> omega) ?_
        refine wa_last ly_105 (by ((try simp only [vp_in_iff, Int32.lt_iff_toInt_lt, Int32.le_iff_toInt_le, ← Int32.toInt_inj, Int32.reduceToInt, n_1, n_2, n_8, Int32.toNatClampNeg, Int64.lt_iff_toInt_lt, Int64.le_iff_toInt_le, ← Int64.toInt_inj, Int64.reduceToInt, Int32.toInt_toInt64, lg_cmp_ge, lg_cmp_le, lg_cmp_gt, lg_cmp_lt, lg_cmp_eq, Bool.false_eq_true, Bool.true_eq_false, reduceCtorEq, false_iff, true_iff, iff_true, iff_false, and_true, true_and, and_false, false_and, reduceIte, ite_true, ite_false, eq_self] at *)) <;> omega) (fun s10 hs10 => ?_)
        have Fs10 : Fm [104, 105] [160] σ s10 := by rw [hs10]; exact Fm.sl Fs1 rfl
        refine wa_iinc (v := (1)) (lv' := fun y11 => [(1, .int y11), (0, .ref 84)]) (by decide) rfl (by decide) (fun _ => rfl) (fun y11 hy11 => ?_)
        have ty11 := i_addT hy11.symm
        clear hy11
        refine wa_goto o_X12_addRow_2 (by decide) ?_
        refine wa_pick [1, 0] rfl ?_
        exact ih2 _ (by ((try simp only [vp_in_iff, Int32.lt_iff_toInt_lt, Int32.le_iff_toInt_le, ← Int32.toInt_inj, Int32.reduceToInt, n_1, n_2, n_8, Int32.toNatClampNeg, Int64.lt_iff_toInt_lt, Int64.le_iff_toInt_le, ← Int64.toInt_inj, Int64.reduceToInt, Int32.toInt_toInt64, lg_cmp_ge, lg_cmp_le, lg_cmp_gt, lg_cmp_lt, lg_cmp_eq, Bool.false_eq_true, Bool.true_eq_false, reduceCtorEq, false_iff, true_iff, iff_true, iff_false, and_true, true_and, and_false, false_and, reduceIte, ite_true, ite_false, eq_self] at *)) <;> omega) _ _ ⟨Fs10, ((nx_gi_sl hs10).trans (khi3_0)), ((nxq_gl_sl hs10 (by decide)).trans (khi3_1)), (by ((try simp only [vp_in_iff, Int32.lt_iff_toInt_lt, Int32.le_iff_toInt_le, ← Int32.toInt_inj, Int32.reduceToInt, n_1, n_2, n_8, Int32.toNatClampNeg, Int64.lt_iff_toInt_lt, Int64.le_iff_toInt_le, ← Int64.toInt_inj, Int64.reduceToInt, Int32.toInt_toInt64, lg_cmp_ge, lg_cmp_le, lg_cmp_gt, lg_cmp_lt, lg_cmp_eq, Bool.false_eq_true, Bool.true_eq_false, reduceCtorEq, false_iff, true_iff, iff_true, iff_false, and_true, true_and, and_false, false_and, reduceIte, ite_true, ite_false, eq_self] at *)) <;> omega), trivial⟩ rfl
  exact hi3 _ _ _ ⟨(Fm.rf [104, 105] [160] σ), (rfl), (rfl), (by ((try simp only [vp_in_iff, Int32.lt_iff_toInt_lt, Int32.le_iff_toInt_le, ← Int32.toInt_inj, Int32.reduceToInt, n_1, n_2, n_8, Int32.toNatClampNeg, Int64.lt_iff_toInt_lt, Int64.le_iff_toInt_le, ← Int64.toInt_inj, Int64.reduceToInt, Int32.toInt_toInt64, lg_cmp_ge, lg_cmp_le, lg_cmp_gt, lg_cmp_lt, lg_cmp_eq, Bool.false_eq_true, Bool.true_eq_false, reduceCtorEq, false_iff, true_iff, iff_true, iff_false, and_true, true_and, and_false, false_and, reduceIte, ite_true, ite_false, eq_self] at *)) <;> omega), trivial⟩ rfl
set_option maxHeartbeats 4000000 in
theorem sp_X12_addNewRow (G : kG9) {d : Nat} (hd : 1 ≤ d) (σ : St) (r1 : 0 ≤ (gi σ 84 160).toInt ∧ (gi σ 84 160).toInt ≤ 599) : Ct G M_X12_addNewRow d [.ref 84] σ (fun r σ' => Fm [104, 105] [160] σ σ' ∧ ((gi σ 84 160).toInt ≤ (gi σ' 84 160).toInt ∧ (gi σ' 84 160).toInt ≤ (gi σ 84 160).toInt + 1) ∧ True) := by
  refine wa_start (by decide) rfl (Nat.le_of_ble_eq_true rfl) (lv := [(0, .ref 84)]) rfl o_X12_addNewRow_0 rfl ?_
  refine wa_iconst (v := 0) (by decide) ?_
  refine wa_istore_nD (lv' := [(1, .int 0), (0, .ref 84)]) (i := 1) rfl (by decide) rfl ?_
  refine wa_pick [1, 0] rfl ?_
  have hi3 : ∀ (n9_2 : Nat) (l1 : Int32) (s1 : St), ((Fm [104, 105] [160] σ s1) ∧ (gi s1 84 160 = gi σ 84 160) ∧ (0 ≤ l1.toInt) ∧ (True)) → (2147483647 - l1.toInt).toNat = n9_2 → WA G M_X12_addNewRow (ZM G M_X12_addNewRow d (fun r σ' => Fm [104, 105] [160] σ σ' ∧ ((gi σ 84 160).toInt ≤ (gi σ' 84 160).toInt ∧ (gi σ' 84 160).toInt ≤ (gi σ 84 160).toInt + 1) ∧ True)) B_X12_addNewRow_2 [(0, .ref 84), (1, .int l1)] [] s1 := by
    intro n9_2
    induction n9_2 using Nat.strongRecOn with
    | _ n9_2 ih2 =>
      intro l1 s1 i9 m9_2
      obtain ⟨Fs1, khi3_0, jhi3_0, -⟩ := i9
      have ul1 := Int32.toInt_lt l1
      have wl1 := Int32.le_toInt l1
      refine wa_iload_n (i := 1) rfl rfl ?_
      refine wa_aload_n (i := 0) rfl rfl ?_
      refine wa_geti ck_12 fl_12_1067 ly_84 ?_
      refine wa_rw (khi3_0) ?_
      refine wa_icmp_ge o_X12_addNewRow_25 (by decide) (fun h4 => ?_) (fun h4 => ?_)
      · refine wa_aload_n (i := 0) rfl rfl ?_
        refine wa_Vv (d9 := d - 1) [] [] (sp_X12_addRow G (d := d - 1) (by omega) s1  (by rw [khi3_0]; first | assumption | exact Or.inl rfl | exact Or.inr rfl | (((try simp only [vp_in_iff, Int32.lt_iff_toInt_lt, Int32.le_iff_toInt_le, ← Int32.toInt_inj, Int32.reduceToInt, n_1, n_2, n_8, Int32.toNatClampNeg, Int64.lt_iff_toInt_lt, Int64.le_iff_toInt_le, ← Int64.toInt_inj, Int64.reduceToInt, Int32.toInt_toInt64, lg_cmp_ge, lg_cmp_le, lg_cmp_gt, lg_cmp_lt, lg_cmp_eq, Bool.false_eq_true, Bool.true_eq_false, reduceCtorEq, false_iff, true_iff, iff_true, iff_false, and_true, true_and, and_false, false_and, reduceIte, ite_true, ite_false, eq_self] at *)) <;> omega))) (rfl) rfl rfl (zr (by omega)) mk_X12_addRow ly_84 ml_12_1073 (Nat.le_of_ble_eq_true rfl) (fun s5 hs5 => ?_)
        obtain ⟨fs5, cx6_1, -⟩ := hs5
        rw [khi3_0] at cx6_1
        have Fs5 : Fm [104, 105] [160] σ s5 := Fm.tr Fs1 (Fm.wd fs5 rfl rfl)
        refine wa_return (st := []) rfl rfl ?_
        exact ⟨Fs5, (by first | assumption | (((try simp only [vp_in_iff, Int32.lt_iff_toInt_lt, Int32.le_iff_toInt_le, ← Int32.toInt_inj, Int32.reduceToInt, n_1, n_2, n_8, Int32.toNatClampNeg, Int64.lt_iff_toInt_lt, Int64.le_iff_toInt_le, ← Int64.toInt_inj, Int64.reduceToInt, Int32.toInt_toInt64, lg_cmp_ge, lg_cmp_le, lg_cmp_gt, lg_cmp_lt, lg_cmp_eq, Bool.false_eq_true, Bool.true_eq_false, reduceCtorEq, false_iff, true_iff, iff_true, iff_false, and_true, true_and, and_false, false_and, reduceIte, ite_true, ite_false, eq_self] at *)) <;> omega)), trivial⟩
      · have mh4 := nle_mx h4
        refine wa_aload_n (i := 0) rfl rfl ?_
        refine wa_iload_n (i := 1) rfl rfl ?_
        refine wa_Vi (d9 := d - 1) [.int _] [] (sp_X12_isRow G (d := d - 1) (by omega) s1 _ (by ((try simp only [vp_in_iff, Int32.lt_iff_toInt_lt, Int32.le_iff_toInt_le, ← Int32.toInt_inj, Int32.reduceToInt, n_1, n_2, n_8, Int32.toNatClampNeg, Int64.lt_iff_toInt_lt, Int64.le_iff_toInt_le, ← Int64.toInt_inj, Int64.reduceToInt, Int32.toInt_toInt64, lg_cmp_ge, lg_cmp_le, lg_cmp_gt, lg_cmp_lt, lg_cmp_eq, Bool.false_eq_true, Bool.true_eq_false, reduceCtorEq, false_iff, true_iff, iff_true, iff_false, and_true, true_and, and_false, false_and, reduceIte, ite_true, ite_false, eq_self] at *)) <;> omega)) (rfl) rfl rfl (zr (by omega)) mk_X12_isRow ly_84 ml_12_1070 (Nat.le_of_ble_eq_true rfl) (fun x8 s7 hs7 => ?_)
        obtain ⟨bx8, ex8, zs7, -⟩ := pB hs7
        subst ex8
        subst zs7
        refine wa_if_eq o_X12_addNewRow_19 (by decide) (fun h9 => ?_) (fun h9 => ?_)
        · replace h9 := bI_f (b := bx8) (rfl) h9
          refine wa_iinc (v := (1)) (lv' := fun y10 => [(1, .int y10), (0, .ref 84)]) (by decide) rfl (by decide) (fun _ => rfl) (fun y10 hy10 => ?_)
          have ty10 := i_addT hy10.symm
          clear hy10
          refine wa_goto o_X12_addNewRow_2 (by decide) ?_
          refine wa_pick [1, 0] rfl ?_
          exact ih2 _ (by ((try simp only [vp_in_iff, Int32.lt_iff_toInt_lt, Int32.le_iff_toInt_le, ← Int32.toInt_inj, Int32.reduceToInt, n_1, n_2, n_8, Int32.toNatClampNeg, Int64.lt_iff_toInt_lt, Int64.le_iff_toInt_le, ← Int64.toInt_inj, Int64.reduceToInt, Int32.toInt_toInt64, lg_cmp_ge, lg_cmp_le, lg_cmp_gt, lg_cmp_lt, lg_cmp_eq, Bool.false_eq_true, Bool.true_eq_false, reduceCtorEq, false_iff, true_iff, iff_true, iff_false, and_true, true_and, and_false, false_and, reduceIte, ite_true, ite_false, eq_self] at *)) <;> omega) _ _ ⟨Fs1, (khi3_0), (by ((try simp only [vp_in_iff, Int32.lt_iff_toInt_lt, Int32.le_iff_toInt_le, ← Int32.toInt_inj, Int32.reduceToInt, n_1, n_2, n_8, Int32.toNatClampNeg, Int64.lt_iff_toInt_lt, Int64.le_iff_toInt_le, ← Int64.toInt_inj, Int64.reduceToInt, Int32.toInt_toInt64, lg_cmp_ge, lg_cmp_le, lg_cmp_gt, lg_cmp_lt, lg_cmp_eq, Bool.false_eq_true, Bool.true_eq_false, reduceCtorEq, false_iff, true_iff, iff_true, iff_false, and_true, true_and, and_false, false_and, reduceIte, ite_true, ite_false, eq_self] at *)) <;> omega), trivial⟩ rfl
        · replace h9 := bI_t (b := bx8) (rfl) h9
          refine wa_return (st := []) rfl rfl ?_
          exact ⟨Fs1, (by rw [khi3_0]; first | assumption | (((try simp only [vp_in_iff, Int32.lt_iff_toInt_lt, Int32.le_iff_toInt_le, ← Int32.toInt_inj, Int32.reduceToInt, n_1, n_2, n_8, Int32.toNatClampNeg, Int64.lt_iff_toInt_lt, Int64.le_iff_toInt_le, ← Int64.toInt_inj, Int64.reduceToInt, Int32.toInt_toInt64, lg_cmp_ge, lg_cmp_le, lg_cmp_gt, lg_cmp_lt, lg_cmp_eq, Bool.false_eq_true, Bool.true_eq_false, reduceCtorEq, false_iff, true_iff, iff_true, iff_false, and_true, true_and, and_false, false_and, reduceIte, ite_true, ite_false, eq_self] at *)) <;> omega)), trivial⟩
  exact hi3 _ _ _ ⟨(Fm.rf [104, 105] [160] σ), (rfl), (by ((try simp only [vp_in_iff, Int32.lt_iff_toInt_lt, Int32.le_iff_toInt_le, ← Int32.toInt_inj, Int32.reduceToInt, n_1, n_2, n_8, Int32.toNatClampNeg, Int64.lt_iff_toInt_lt, Int64.le_iff_toInt_le, ← Int64.toInt_inj, Int64.reduceToInt, Int32.toInt_toInt64, lg_cmp_ge, lg_cmp_le, lg_cmp_gt, lg_cmp_lt, lg_cmp_eq, Bool.false_eq_true, Bool.true_eq_false, reduceCtorEq, false_iff, true_iff, iff_true, iff_false, and_true, true_and, and_false, false_and, reduceIte, ite_true, ite_false, eq_self] at *)) <;> omega), trivial⟩ rfl
set_option maxHeartbeats 4000000 in
theorem sp_X12_isAllPlain (G : kG9) {d : Nat} (hd : 0 ≤ d) (σ : St) (r1 : 0 ≤ (gi σ 84 33).toInt ∧ (gi σ 84 33).toInt ≤ 24) : Ct G M_X12_isAllPlain d [.ref 84] σ (fun r σ' => ∃ x : Bool, r = some (.int (bI x)) ∧ σ = σ' ∧ True) := by
  refine wa_start (by decide) rfl (Nat.le_of_ble_eq_true rfl) (lv := [(0, .ref 84)]) rfl o_X12_isAllPlain_0 rfl ?_
  refine wa_iconst (v := 1) (by decide) ?_
  refine wa_istore_nD (lv' := [(1, .int (bI true)), (0, .ref 84)]) (i := 1) rfl (by decide) rfl ?_
  refine wa_iconst (v := 0) (by decide) ?_
  refine wa_istore_nD (lv' := [(2, .int 0), (1, .int (bI true)), (0, .ref 84)]) (i := 2) rfl (by decide) rfl ?_
  refine wa_pick [2, 1, 0] rfl ?_
  have hi2 : ∀ (n9_4 : Nat) (l1 : Bool) (l2 : Int32), ((0 ≤ l2.toInt) ∧ (True)) → (2147483647 - l2.toInt).toNat = n9_4 → WA G M_X12_isAllPlain (ZM G M_X12_isAllPlain d (fun r σ' => ∃ x : Bool, r = some (.int (bI x)) ∧ σ = σ' ∧ True)) B_X12_isAllPlain_4 [(0, .ref 84), (1, .int (bI l1)), (2, .int l2)] [] σ := by
    intro n9_4
    induction n9_4 using Nat.strongRecOn with
    | _ n9_4 ih1 =>
      intro l1 l2  i9 m9_4
      obtain ⟨jhi2_0, -⟩ := i9
      have ul2 := Int32.toInt_lt l2
      have wl2 := Int32.le_toInt l2
      refine wa_iload_n (i := 2) rfl rfl ?_
      refine wa_aload_n (i := 0) rfl rfl ?_
      refine wa_geti ck_12 fl_12_818 ly_84 ?_
      refine wa_icmp_ge o_X12_isAllPlain_46 (by decide) (fun h3 => ?_) (fun h3 => ?_)
      · refine wa_iload_n (i := 1) rfl rfl ?_
        refine wa_zreturn l1 (rfl) rfl rfl ?_
        exact ⟨_, rfl, rfl, trivial⟩
      · have mh3 := nle_mx h3
        refine wa_iload_n (i := 1) rfl rfl ?_
        refine wa_if_eq o_X12_isAllPlain_38 (by decide) (fun h4 => ?_) (fun h4 => ?_)
        · replace h4 := bI_f (b := l1) (rfl) h4
          refine wa_iconst (v := 0) (by decide) ?_
          refine wa_istore_nD (lv' := [(1, .int (bI false)), (0, .ref 84), (2, .int l2)]) (i := 1) rfl (by decide) rfl ?_
          refine wa_iinc (v := (1)) (lv' := fun y5 => [(2, .int y5), (1, .int (bI false)), (0, .ref 84)]) (by decide) rfl (by decide) (fun _ => rfl) (fun y5 hy5 => ?_)
          have ty5 := i_addT hy5.symm
          clear hy5
          refine wa_goto o_X12_isAllPlain_4 (by decide) ?_
          refine wa_pick [2, 1, 0] rfl ?_
          exact ih1 _ (by ((try simp only [vp_in_iff, Int32.lt_iff_toInt_lt, Int32.le_iff_toInt_le, ← Int32.toInt_inj, Int32.reduceToInt, n_1, n_2, n_8, Int32.toNatClampNeg, Int64.lt_iff_toInt_lt, Int64.le_iff_toInt_le, ← Int64.toInt_inj, Int64.reduceToInt, Int32.toInt_toInt64, lg_cmp_ge, lg_cmp_le, lg_cmp_gt, lg_cmp_lt, lg_cmp_eq, Bool.false_eq_true, Bool.true_eq_false, reduceCtorEq, false_iff, true_iff, iff_true, iff_false, and_true, true_and, and_false, false_and, reduceIte, ite_true, ite_false, eq_self] at *)) <;> omega) _ _ ⟨(by ((try simp only [vp_in_iff, Int32.lt_iff_toInt_lt, Int32.le_iff_toInt_le, ← Int32.toInt_inj, Int32.reduceToInt, n_1, n_2, n_8, Int32.toNatClampNeg, Int64.lt_iff_toInt_lt, Int64.le_iff_toInt_le, ← Int64.toInt_inj, Int64.reduceToInt, Int32.toInt_toInt64, lg_cmp_ge, lg_cmp_le, lg_cmp_gt, lg_cmp_lt, lg_cmp_eq, Bool.false_eq_true, Bool.true_eq_false, reduceCtorEq, false_iff, true_iff, iff_true, iff_false, and_true, true_and, and_false, false_and, reduceIte, ite_true, ite_false, eq_self] at *)) <;> omega), trivial⟩ rfl
        · replace h4 := bI_t (b := l1) (rfl) h4
          refine wa_aload_n (i := 0) rfl rfl ?_
          refine wa_getr ck_12 fl_12_265 ly_84 rf_84_103 ?_
          refine wa_iload_n (i := 2) rfl rfl ?_
          refine wa_zald ly_146 (by ((try simp only [vp_in_iff, Int32.lt_iff_toInt_lt, Int32.le_iff_toInt_le, ← Int32.toInt_inj, Int32.reduceToInt, n_1, n_2, n_8, Int32.toNatClampNeg, Int64.lt_iff_toInt_lt, Int64.le_iff_toInt_le, ← Int64.toInt_inj, Int64.reduceToInt, Int32.toInt_toInt64, lg_cmp_ge, lg_cmp_le, lg_cmp_gt, lg_cmp_lt, lg_cmp_eq, Bool.false_eq_true, Bool.true_eq_false, reduceCtorEq, false_iff, true_iff, iff_true, iff_false, and_true, true_and, and_false, false_and, reduceIte, ite_true, ite_false, eq_self] at *)) <;> omega) ?_
          refine wa_if_eq o_X12_isAllPlain_34 (by decide) (fun h6 => ?_) (fun h6 => ?_)
          · replace h6 := bI_f (b := (gb σ 146 (l2).toNatClampNeg)) (rfl) h6
            refine wa_iconst (v := 1) (by decide) ?_
            refine wa_goto o_X12_isAllPlain_39 (by decide) ?_
            refine wa_istore_nD (lv' := [(1, .int (bI true)), (0, .ref 84), (2, .int l2)]) (i := 1) rfl (by decide) rfl ?_
            refine wa_iinc (v := (1)) (lv' := fun y7 => [(2, .int y7), (1, .int (bI true)), (0, .ref 84)]) (by decide) rfl (by decide) (fun _ => rfl) (fun y7 hy7 => ?_)
            have ty7 := i_addT hy7.symm
            clear hy7
            refine wa_goto o_X12_isAllPlain_4 (by decide) ?_
            refine wa_pick [2, 1, 0] rfl ?_
            exact ih1 _ (by ((try simp only [vp_in_iff, Int32.lt_iff_toInt_lt, Int32.le_iff_toInt_le, ← Int32.toInt_inj, Int32.reduceToInt, n_1, n_2, n_8, Int32.toNatClampNeg, Int64.lt_iff_toInt_lt, Int64.le_iff_toInt_le, ← Int64.toInt_inj, Int64.reduceToInt, Int32.toInt_toInt64, lg_cmp_ge, lg_cmp_le, lg_cmp_gt, lg_cmp_lt, lg_cmp_eq, Bool.false_eq_true, Bool.true_eq_false, reduceCtorEq, false_iff, true_iff, iff_true, iff_false, and_true, true_and, and_false, false_and, reduceIte, ite_true, ite_false, eq_self] at *)) <;> omega) _ _ ⟨(by ((try simp only [vp_in_iff, Int32.lt_iff_toInt_lt, Int32.le_iff_toInt_le, ← Int32.toInt_inj, Int32.reduceToInt, n_1, n_2, n_8, Int32.toNatClampNeg, Int64.lt_iff_toInt_lt, Int64.le_iff_toInt_le, ← Int64.toInt_inj, Int64.reduceToInt, Int32.toInt_toInt64, lg_cmp_ge, lg_cmp_le, lg_cmp_gt, lg_cmp_lt, lg_cmp_eq, Bool.false_eq_true, Bool.true_eq_false, reduceCtorEq, false_iff, true_iff, iff_true, iff_false, and_true, true_and, and_false, false_and, reduceIte, ite_true, ite_false, eq_self] at *)) <;> omega), trivial⟩ rfl
          · replace h6 := bI_t (b := (gb σ 146 (l2).toNatClampNeg)) (rfl) h6
            refine wa_aload_n (i := 0) rfl rfl ?_
            refine wa_getr ck_12 fl_12_244 ly_84 rf_84_92 ?_
            refine wa_iload_n (i := 2) rfl rfl ?_
            refine wa_zald ly_153 (by ((try simp only [vp_in_iff, Int32.lt_iff_toInt_lt, Int32.le_iff_toInt_le, ← Int32.toInt_inj, Int32.reduceToInt, n_1, n_2, n_8, Int32.toNatClampNeg, Int64.lt_iff_toInt_lt, Int64.le_iff_toInt_le, ← Int64.toInt_inj, Int64.reduceToInt, Int32.toInt_toInt64, lg_cmp_ge, lg_cmp_le, lg_cmp_gt, lg_cmp_lt, lg_cmp_eq, Bool.false_eq_true, Bool.true_eq_false, reduceCtorEq, false_iff, true_iff, iff_true, iff_false, and_true, true_and, and_false, false_and, reduceIte, ite_true, ite_false, eq_self] at *)) <;> omega) ?_
            refine wa_if_eq o_X12_isAllPlain_38 (by decide) (fun h8 => ?_) (fun h8 => ?_)
            · replace h8 := bI_f (b := (gb σ 153 (l2).toNatClampNeg)) (rfl) h8
              refine wa_iconst (v := 0) (by decide) ?_
              refine wa_istore_nD (lv' := [(1, .int (bI false)), (0, .ref 84), (2, .int l2)]) (i := 1) rfl (by decide) rfl ?_
              refine wa_iinc (v := (1)) (lv' := fun y9 => [(2, .int y9), (1, .int (bI false)), (0, .ref 84)]) (by decide) rfl (by decide) (fun _ => rfl) (fun y9 hy9 => ?_)
              have ty9 := i_addT hy9.symm
              clear hy9
              refine wa_goto o_X12_isAllPlain_4 (by decide) ?_
              refine wa_pick [2, 1, 0] rfl ?_
              exact ih1 _ (by ((try simp only [vp_in_iff, Int32.lt_iff_toInt_lt, Int32.le_iff_toInt_le, ← Int32.toInt_inj, Int32.reduceToInt, n_1, n_2, n_8, Int32.toNatClampNeg, Int64.lt_iff_toInt_lt, Int64.le_iff_toInt_le, ← Int64.toInt_inj, Int64.reduceToInt, Int32.toInt_toInt64, lg_cmp_ge, lg_cmp_le, lg_cmp_gt, lg_cmp_lt, lg_cmp_eq, Bool.false_eq_true, Bool.true_eq_false, reduceCtorEq, false_iff, true_iff, iff_true, iff_false, and_true, true_and, and_false, false_and, reduceIte, ite_true, ite_false, eq_self] at *)) <;> omega) _ _ ⟨(by ((try simp only [vp_in_iff, Int32.lt_iff_toInt_lt, Int32.le_iff_toInt_le, ← Int32.toInt_inj, Int32.reduceToInt, n_1, n_2, n_8, Int32.toNatClampNeg, Int64.lt_iff_toInt_lt, Int64.le_iff_toInt_le, ← Int64.toInt_inj, Int64.reduceToInt, Int32.toInt_toInt64, lg_cmp_ge, lg_cmp_le, lg_cmp_gt, lg_cmp_lt, lg_cmp_eq, Bool.false_eq_true, Bool.true_eq_false, reduceCtorEq, false_iff, true_iff, iff_true, iff_false, and_true, true_and, and_false, false_and, reduceIte, ite_true, ite_false, eq_self] at *)) <;> omega), trivial⟩ rfl
            · replace h8 := bI_t (b := (gb σ 153 (l2).toNatClampNeg)) (rfl) h8
              refine wa_iconst (v := 1) (by decide) ?_
              refine wa_goto o_X12_isAllPlain_39 (by decide) ?_
              refine wa_istore_nD (lv' := [(1, .int (bI true)), (0, .ref 84), (2, .int l2)]) (i := 1) rfl (by decide) rfl ?_
              refine wa_iinc (v := (1)) (lv' := fun y10 => [(2, .int y10), (1, .int (bI true)), (0, .ref 84)]) (by decide) rfl (by decide) (fun _ => rfl) (fun y10 hy10 => ?_)
              have ty10 := i_addT hy10.symm
              clear hy10
              refine wa_goto o_X12_isAllPlain_4 (by decide) ?_
              refine wa_pick [2, 1, 0] rfl ?_
              exact ih1 _ (by ((try simp only [vp_in_iff, Int32.lt_iff_toInt_lt, Int32.le_iff_toInt_le, ← Int32.toInt_inj, Int32.reduceToInt, n_1, n_2, n_8, Int32.toNatClampNeg, Int64.lt_iff_toInt_lt, Int64.le_iff_toInt_le, ← Int64.toInt_inj, Int64.reduceToInt, Int32.toInt_toInt64, lg_cmp_ge, lg_cmp_le, lg_cmp_gt, lg_cmp_lt, lg_cmp_eq, Bool.false_eq_true, Bool.true_eq_false, reduceCtorEq, false_iff, true_iff, iff_true, iff_false, and_true, true_and, and_false, false_and, reduceIte, ite_true, ite_false, eq_self] at *)) <;> omega) _ _ ⟨(by ((try simp only [vp_in_iff, Int32.lt_iff_toInt_lt, Int32.le_iff_toInt_le, ← Int32.toInt_inj, Int32.reduceToInt, n_1, n_2, n_8, Int32.toNatClampNeg, Int64.lt_iff_toInt_lt, Int64.le_iff_toInt_le, ← Int64.toInt_inj, Int64.reduceToInt, Int32.toInt_toInt64, lg_cmp_ge, lg_cmp_le, lg_cmp_gt, lg_cmp_lt, lg_cmp_eq, Bool.false_eq_true, Bool.true_eq_false, reduceCtorEq, false_iff, true_iff, iff_true, iff_false, and_true, true_and, and_false, false_and, reduceIte, ite_true, ite_false, eq_self] at *)) <;> omega), trivial⟩ rfl
  exact hi2 _ _ _ ⟨(by ((try simp only [vp_in_iff, Int32.lt_iff_toInt_lt, Int32.le_iff_toInt_le, ← Int32.toInt_inj, Int32.reduceToInt, n_1, n_2, n_8, Int32.toNatClampNeg, Int64.lt_iff_toInt_lt, Int64.le_iff_toInt_le, ← Int64.toInt_inj, Int64.reduceToInt, Int32.toInt_toInt64, lg_cmp_ge, lg_cmp_le, lg_cmp_gt, lg_cmp_lt, lg_cmp_eq, Bool.false_eq_true, Bool.true_eq_false, reduceCtorEq, false_iff, true_iff, iff_true, iff_false, and_true, true_and, and_false, false_and, reduceIte, ite_true, ite_false, eq_self] at *)) <;> omega), trivial⟩ rfl
set_option maxHeartbeats 4000000 in
theorem sp_X12_clearHere (G : kG9) {d : Nat} (hd : 0 ≤ d) (σ : St) (a0 : Int64) : Ct G M_X12_clearHere d [.ref 84, .long a0] σ (fun r σ' => Fm [147] [101, 102] σ σ' ∧ True) := by
  refine wa_start (by decide) rfl (Nat.le_of_ble_eq_true rfl) (lv := [(0, .ref 84), (1, .long a0)]) rfl o_X12_clearHere_0 rfl ?_
  refine wa_iconst (v := 0) (by decide) ?_
  refine wa_istore_nD (lv' := [(3, .int 0), (0, .ref 84), (1, .long a0)]) (i := 3) rfl (by decide) rfl ?_
  refine wa_pick [1, 2, 0] rfl ?_
  have hi3 : ∀ (n9_2 : Nat) (l3 : Int32) (s1 : St), ((Fm [147] [101, 102] σ s1) ∧ (gl s1 84 101 = gl σ 84 101) ∧ (gl s1 84 102 = gl σ 84 102) ∧ (0 ≤ l3.toInt) ∧ (True)) → (2147483647 - l3.toInt).toNat = n9_2 → WA G M_X12_clearHere (ZM G M_X12_clearHere d (fun r σ' => Fm [147] [101, 102] σ σ' ∧ True)) B_X12_clearHere_2 [(0, .ref 84), (1, .long a0), (3, .int l3)] [] s1 := by
    intro n9_2
    induction n9_2 using Nat.strongRecOn with
    | _ n9_2 ih2 =>
      intro l3 s1 i9 m9_2
      obtain ⟨Fs1, khi3_0, khi3_1, jhi3_0, -⟩ := i9
      have ul3 := Int32.toInt_lt l3
      have wl3 := Int32.le_toInt l3
      refine wa_iload_n (i := 3) rfl rfl ?_
      refine wa_iconst (v := 4) (by decide) ?_
      refine wa_icmp_ge o_X12_clearHere_20 (by decide) (fun h4 => ?_) (fun h4 => ?_)
      · refine wa_aload_n (i := 0) rfl rfl ?_
        refine wa_lload_n (i := 1) rfl rfl ?_
        refine wa_putl ck_12 fl_12_736 ly_84 (fun s5 hs5 => ?_)
        have Fs5 : Fm [147] [101, 102] σ s5 := by rw [hs5]; exact Fm.sl Fs1 rfl
        refine wa_aload_n (i := 0) rfl rfl ?_
        refine wa_lconst (v := 1) (by decide) ?_
        refine wa_putl ck_12 fl_12_740 ly_84 (fun s6 hs6 => ?_)
        have Fs6 : Fm [147] [101, 102] σ s6 := by rw [hs6]; exact Fm.sl Fs5 rfl
        refine wa_return (st := []) rfl rfl ?_
        exact ⟨Fs6, trivial⟩
      · have mh4 := nle_mx h4
        refine wa_aload_n (i := 0) rfl rfl ?_
        refine wa_getr ck_12 fl_12_262 ly_84 rf_84_100 ?_
        refine wa_iload_n (i := 3) rfl rfl ?_
        refine wa_lconst (v := 0) (by decide) ?_
        refine wa_last ly_147 (by ((try simp only [vp_in_iff, Int32.lt_iff_toInt_lt, Int32.le_iff_toInt_le, ← Int32.toInt_inj, Int32.reduceToInt, n_1, n_2, n_8, Int32.toNatClampNeg, Int64.lt_iff_toInt_lt, Int64.le_iff_toInt_le, ← Int64.toInt_inj, Int64.reduceToInt, Int32.toInt_toInt64, lg_cmp_ge, lg_cmp_le, lg_cmp_gt, lg_cmp_lt, lg_cmp_eq, Bool.false_eq_true, Bool.true_eq_false, reduceCtorEq, false_iff, true_iff, iff_true, iff_false, and_true, true_and, and_false, false_and, reduceIte, ite_true, ite_false, eq_self] at *)) <;> omega) (fun s7 hs7 => ?_)
        have Fs7 : Fm [147] [101, 102] σ s7 := by rw [hs7]; exact Fm.sl Fs1 rfl
        refine wa_iinc (v := (1)) (lv' := fun y8 => [(3, .int y8), (0, .ref 84), (1, .long a0)]) (by decide) rfl (by decide) (fun _ => rfl) (fun y8 hy8 => ?_)
        have ty8 := i_addT hy8.symm
        clear hy8
        refine wa_goto o_X12_clearHere_2 (by decide) ?_
        refine wa_pick [1, 2, 0] rfl ?_
        exact ih2 _ (by ((try simp only [vp_in_iff, Int32.lt_iff_toInt_lt, Int32.le_iff_toInt_le, ← Int32.toInt_inj, Int32.reduceToInt, n_1, n_2, n_8, Int32.toNatClampNeg, Int64.lt_iff_toInt_lt, Int64.le_iff_toInt_le, ← Int64.toInt_inj, Int64.reduceToInt, Int32.toInt_toInt64, lg_cmp_ge, lg_cmp_le, lg_cmp_gt, lg_cmp_lt, lg_cmp_eq, Bool.false_eq_true, Bool.true_eq_false, reduceCtorEq, false_iff, true_iff, iff_true, iff_false, and_true, true_and, and_false, false_and, reduceIte, ite_true, ite_false, eq_self] at *)) <;> omega) _ _ ⟨Fs7, ((nxq_gl_sl hs7 (by decide)).trans (khi3_0)), ((nxq_gl_sl hs7 (by decide)).trans (khi3_1)), (by ((try simp only [vp_in_iff, Int32.lt_iff_toInt_lt, Int32.le_iff_toInt_le, ← Int32.toInt_inj, Int32.reduceToInt, n_1, n_2, n_8, Int32.toNatClampNeg, Int64.lt_iff_toInt_lt, Int64.le_iff_toInt_le, ← Int64.toInt_inj, Int64.reduceToInt, Int32.toInt_toInt64, lg_cmp_ge, lg_cmp_le, lg_cmp_gt, lg_cmp_lt, lg_cmp_eq, Bool.false_eq_true, Bool.true_eq_false, reduceCtorEq, false_iff, true_iff, iff_true, iff_false, and_true, true_and, and_false, false_and, reduceIte, ite_true, ite_false, eq_self] at *)) <;> omega), trivial⟩ rfl
  exact hi3 _ _ _ ⟨(Fm.rf [147] [101, 102] σ), (rfl), (rfl), (by ((try simp only [vp_in_iff, Int32.lt_iff_toInt_lt, Int32.le_iff_toInt_le, ← Int32.toInt_inj, Int32.reduceToInt, n_1, n_2, n_8, Int32.toNatClampNeg, Int64.lt_iff_toInt_lt, Int64.le_iff_toInt_le, ← Int64.toInt_inj, Int64.reduceToInt, Int32.toInt_toInt64, lg_cmp_ge, lg_cmp_le, lg_cmp_gt, lg_cmp_lt, lg_cmp_eq, Bool.false_eq_true, Bool.true_eq_false, reduceCtorEq, false_iff, true_iff, iff_true, iff_false, and_true, true_and, and_false, false_and, reduceIte, ite_true, ite_false, eq_self] at *)) <;> omega), trivial⟩ rfl
set_option maxHeartbeats 4000000 in
theorem sp_X12_collectRows (G : kG9) {d : Nat} (hd : 2 ≤ d) (σ : St) (r1 : 0 ≤ (gi σ 84 33).toInt ∧ (gi σ 84 33).toInt ≤ 24) (A_156 : AR ap_156 σ 156) (A_158 : AR ap_158 σ 158) (A_159 : AR ap_159 σ 159) : Ct G M_X12_collectRows d [.ref 84] σ (fun r σ' => Fm [104, 105, 147] [101, 102, 160] σ σ' ∧ (0 ≤ (gi σ' 84 160).toInt ∧ (gi σ' 84 160).toInt ≤ 600) ∧ True) := by
  refine wa_start (by decide) rfl (Nat.le_of_ble_eq_true rfl) (lv := [(0, .ref 84)]) rfl o_X12_collectRows_0 rfl ?_
  refine wa_aload_n (i := 0) rfl rfl ?_
  refine wa_iconst (v := 0) (by decide) ?_
  refine wa_puti ck_12 fl_12_1067 ly_84 (fun s1 hs1 => ?_)
  have Fs1 : Fm [104, 105, 147] [101, 102, 160] σ s1 := by rw [hs1]; exact Fm.si (Fm.rf [104, 105, 147] [101, 102, 160] σ) rfl
  refine wa_iconst (v := 0) (by decide) ?_
  refine wa_istore_nD (lv' := [(1, .int 0), (0, .ref 84)]) (i := 1) rfl (by decide) rfl ?_
  refine wa_pick [1, 0] rfl ?_
  have hi4 : ∀ (n9_7 : Nat) (l1 : Int32) (s2 : St), ((Fm [104, 105, 147] [101, 102, 160] σ s2) ∧ (gi s2 84 33 = gi σ 84 33) ∧ (0 ≤ l1.toInt) ∧ (0 ≤ (gi s2 84 160).toInt) ∧ ((gi s2 84 160).toInt ≤ 25 * l1.toInt) ∧ (True)) → (2147483647 - l1.toInt).toNat = n9_7 → WA G M_X12_collectRows (ZM G M_X12_collectRows d (fun r σ' => Fm [104, 105, 147] [101, 102, 160] σ σ' ∧ (0 ≤ (gi σ' 84 160).toInt ∧ (gi σ' 84 160).toInt ≤ 600) ∧ True)) B_X12_collectRows_7 [(0, .ref 84), (1, .int l1)] [] s2 := by
    intro n9_7
    induction n9_7 using Nat.strongRecOn with
    | _ n9_7 ih3 =>
      intro l1 s2 i9 m9_7
      obtain ⟨Fs2, khi4_0, jhi4_0, jhi4_1, jhi4_2, -⟩ := i9
      have ul1 := Int32.toInt_lt l1
      have wl1 := Int32.le_toInt l1
      refine wa_iload_n (i := 1) rfl rfl ?_
      refine wa_aload_n (i := 0) rfl rfl ?_
      refine wa_geti ck_12 fl_12_818 ly_84 ?_
      refine wa_rw (khi4_0) ?_
      refine wa_icmp_ge o_X12_collectRows_135 (by decide) (fun h5 => ?_) (fun h5 => ?_)
      · refine wa_return (st := []) rfl rfl ?_
        exact ⟨Fs2, (by first | assumption | (((try simp only [vp_in_iff, Int32.lt_iff_toInt_lt, Int32.le_iff_toInt_le, ← Int32.toInt_inj, Int32.reduceToInt, n_1, n_2, n_8, Int32.toNatClampNeg, Int64.lt_iff_toInt_lt, Int64.le_iff_toInt_le, ← Int64.toInt_inj, Int64.reduceToInt, Int32.toInt_toInt64, lg_cmp_ge, lg_cmp_le, lg_cmp_gt, lg_cmp_lt, lg_cmp_eq, Bool.false_eq_true, Bool.true_eq_false, reduceCtorEq, false_iff, true_iff, iff_true, iff_false, and_true, true_and, and_false, false_and, reduceIte, ite_true, ite_false, eq_self] at *)) <;> omega)), trivial⟩
      · have mh5 := nle_mx h5
        refine wa_iconst (v := 0) (by decide) ?_
        refine wa_istore_nD (lv' := [(2, .int 0), (0, .ref 84), (1, .int l1)]) (i := 2) rfl (by decide) rfl ?_
        refine wa_pick [1, 2, 0] rfl ?_
        have hi8 : ∀ (n9_17 : Nat) (l2 : Int32) (s6 : St), ((Fm [104, 105, 147] [101, 102, 160] σ s6) ∧ (gi s6 84 33 = gi σ 84 33) ∧ (0 ≤ (gi s6 84 160).toInt) ∧ (0 ≤ l2.toInt ∧ l2.toInt ≤ 25) ∧ ((gi s6 84 160).toInt ≤ 25 * l1.toInt + l2.toInt ∨ ((gi s6 84 160).toInt ≤ 25 * l1.toInt + l2.toInt + 1 ∧ (gi σ 152 (l1).toNatClampNeg).toInt < l2.toInt)) ∧ (l2.toInt ≤ (gi σ 156 (l1).toNatClampNeg).toInt ∨ (gi s6 84 160).toInt ≤ 25 * l1.toInt + (gi σ 156 (l1).toNatClampNeg).toInt + 1) ∧ (True)) → (26 - l2.toInt).toNat = n9_17 → WA G M_X12_collectRows (ZM G M_X12_collectRows d (fun r σ' => Fm [104, 105, 147] [101, 102, 160] σ σ' ∧ (0 ≤ (gi σ' 84 160).toInt ∧ (gi σ' 84 160).toInt ≤ 600) ∧ True)) B_X12_collectRows_17 [(0, .ref 84), (1, .int l1), (2, .int l2)] [] s6 := by
          intro n9_17
          induction n9_17 using Nat.strongRecOn with
          | _ n9_17 ih7 =>
            intro l2 s6 i9 m9_17
            obtain ⟨Fs6, khi8_0, jhi8_0, jhi8_1, jhi8_2, jhi8_3, -⟩ := i9
            have ul2 := Int32.toInt_lt l2
            have wl2 := Int32.le_toInt l2
            refine wa_aload_n (i := 0) rfl rfl ?_
            refine wa_getr ck_12 fl_12_265 ly_84 rf_84_103 ?_
            refine wa_iload_n (i := 1) rfl rfl ?_
            refine wa_zald ly_146 (by ((try simp only [vp_in_iff, Int32.lt_iff_toInt_lt, Int32.le_iff_toInt_le, ← Int32.toInt_inj, Int32.reduceToInt, n_1, n_2, n_8, Int32.toNatClampNeg, Int64.lt_iff_toInt_lt, Int64.le_iff_toInt_le, ← Int64.toInt_inj, Int64.reduceToInt, Int32.toInt_toInt64, lg_cmp_ge, lg_cmp_le, lg_cmp_gt, lg_cmp_lt, lg_cmp_eq, Bool.false_eq_true, Bool.true_eq_false, reduceCtorEq, false_iff, true_iff, iff_true, iff_false, and_true, true_and, and_false, false_and, reduceIte, ite_true, ite_false, eq_self] at *)) <;> omega) ?_
            refine wa_if_eq o_X12_collectRows_129 (by decide) (fun h9 => ?_) (fun h9 => ?_)
            · replace h9 := bI_f (b := (gb s6 146 (l1).toNatClampNeg)) (rfl) h9
              refine wa_iinc (v := (1)) (lv' := fun y10 => [(1, .int y10), (0, .ref 84), (2, .int l2)]) (by decide) rfl (by decide) (fun _ => rfl) (fun y10 hy10 => ?_)
              have ty10 := i_addT hy10.symm
              clear hy10
              refine wa_goto o_X12_collectRows_7 (by decide) ?_
              refine wa_pick [1, 0] rfl ?_
              exact ih3 _ (by ((try simp only [vp_in_iff, Int32.lt_iff_toInt_lt, Int32.le_iff_toInt_le, ← Int32.toInt_inj, Int32.reduceToInt, n_1, n_2, n_8, Int32.toNatClampNeg, Int64.lt_iff_toInt_lt, Int64.le_iff_toInt_le, ← Int64.toInt_inj, Int64.reduceToInt, Int32.toInt_toInt64, lg_cmp_ge, lg_cmp_le, lg_cmp_gt, lg_cmp_lt, lg_cmp_eq, Bool.false_eq_true, Bool.true_eq_false, reduceCtorEq, false_iff, true_iff, iff_true, iff_false, and_true, true_and, and_false, false_and, reduceIte, ite_true, ite_false, eq_self] at *)) <;> omega) _ _ ⟨Fs6, (khi8_0), (by ((try simp only [vp_in_iff, Int32.lt_iff_toInt_lt, Int32.le_iff_toInt_le, ← Int32.toInt_inj, Int32.reduceToInt, n_1, n_2, n_8, Int32.toNatClampNeg, Int64.lt_iff_toInt_lt, Int64.le_iff_toInt_le, ← Int64.toInt_inj, Int64.reduceToInt, Int32.toInt_toInt64, lg_cmp_ge, lg_cmp_le, lg_cmp_gt, lg_cmp_lt, lg_cmp_eq, Bool.false_eq_true, Bool.true_eq_false, reduceCtorEq, false_iff, true_iff, iff_true, iff_false, and_true, true_and, and_false, false_and, reduceIte, ite_true, ite_false, eq_self] at *)) <;> omega), (by first | assumption | (((try simp only [vp_in_iff, Int32.lt_iff_toInt_lt, Int32.le_iff_toInt_le, ← Int32.toInt_inj, Int32.reduceToInt, n_1, n_2, n_8, Int32.toNatClampNeg, Int64.lt_iff_toInt_lt, Int64.le_iff_toInt_le, ← Int64.toInt_inj, Int64.reduceToInt, Int32.toInt_toInt64, lg_cmp_ge, lg_cmp_le, lg_cmp_gt, lg_cmp_lt, lg_cmp_eq, Bool.false_eq_true, Bool.true_eq_false, reduceCtorEq, false_iff, true_iff, iff_true, iff_false, and_true, true_and, and_false, false_and, reduceIte, ite_true, ite_false, eq_self] at *)) <;> omega)), (by first | assumption | (((try simp only [vp_in_iff, Int32.lt_iff_toInt_lt, Int32.le_iff_toInt_le, ← Int32.toInt_inj, Int32.reduceToInt, n_1, n_2, n_8, Int32.toNatClampNeg, Int64.lt_iff_toInt_lt, Int64.le_iff_toInt_le, ← Int64.toInt_inj, Int64.reduceToInt, Int32.toInt_toInt64, lg_cmp_ge, lg_cmp_le, lg_cmp_gt, lg_cmp_lt, lg_cmp_eq, Bool.false_eq_true, Bool.true_eq_false, reduceCtorEq, false_iff, true_iff, iff_true, iff_false, and_true, true_and, and_false, false_and, reduceIte, ite_true, ite_false, eq_self] at *)) <;> omega)), trivial⟩ rfl
            · replace h9 := bI_t (b := (gb s6 146 (l1).toNatClampNeg)) (rfl) h9
              refine wa_iload_n (i := 2) rfl rfl ?_
              refine wa_aload_n (i := 0) rfl rfl ?_
              refine wa_getr ck_12 fl_12_235 ly_84 rf_84_89 ?_
              refine wa_iload_n (i := 1) rfl rfl ?_
              refine wa_iald ly_156 (by ((try simp only [vp_in_iff, Int32.lt_iff_toInt_lt, Int32.le_iff_toInt_le, ← Int32.toInt_inj, Int32.reduceToInt, n_1, n_2, n_8, Int32.toNatClampNeg, Int64.lt_iff_toInt_lt, Int64.le_iff_toInt_le, ← Int64.toInt_inj, Int64.reduceToInt, Int32.toInt_toInt64, lg_cmp_ge, lg_cmp_le, lg_cmp_gt, lg_cmp_lt, lg_cmp_eq, Bool.false_eq_true, Bool.true_eq_false, reduceCtorEq, false_iff, true_iff, iff_true, iff_false, and_true, true_and, and_false, false_and, reduceIte, ite_true, ite_false, eq_self] at *)) <;> omega) ?_
              refine wa_top (fun v11 hv11 => ?_)
              have rv11 : 0 ≤ v11.toInt ∧ v11.toInt ≤ 24 := by rw [← hv11]; exact ar_at (ar_fm Fs6 rfl rfl A_156) _
              have qv11 := hv11
              clear hv11
              refine wa_icmp_gt o_X12_collectRows_129 (by decide) (fun h12 => ?_) (fun h12 => ?_)
              · refine wa_iinc (v := (1)) (lv' := fun y13 => [(1, .int y13), (0, .ref 84), (2, .int l2)]) (by decide) rfl (by decide) (fun _ => rfl) (fun y13 hy13 => ?_)
                have ty13 := i_addT hy13.symm
                clear hy13
                refine wa_goto o_X12_collectRows_7 (by decide) ?_
                refine wa_pick [1, 0] rfl ?_
                exact ih3 _ (by ((try simp only [vp_in_iff, Int32.lt_iff_toInt_lt, Int32.le_iff_toInt_le, ← Int32.toInt_inj, Int32.reduceToInt, n_1, n_2, n_8, Int32.toNatClampNeg, Int64.lt_iff_toInt_lt, Int64.le_iff_toInt_le, ← Int64.toInt_inj, Int64.reduceToInt, Int32.toInt_toInt64, lg_cmp_ge, lg_cmp_le, lg_cmp_gt, lg_cmp_lt, lg_cmp_eq, Bool.false_eq_true, Bool.true_eq_false, reduceCtorEq, false_iff, true_iff, iff_true, iff_false, and_true, true_and, and_false, false_and, reduceIte, ite_true, ite_false, eq_self] at *)) <;> omega) _ _ ⟨Fs6, (khi8_0), (by ((try simp only [vp_in_iff, Int32.lt_iff_toInt_lt, Int32.le_iff_toInt_le, ← Int32.toInt_inj, Int32.reduceToInt, n_1, n_2, n_8, Int32.toNatClampNeg, Int64.lt_iff_toInt_lt, Int64.le_iff_toInt_le, ← Int64.toInt_inj, Int64.reduceToInt, Int32.toInt_toInt64, lg_cmp_ge, lg_cmp_le, lg_cmp_gt, lg_cmp_lt, lg_cmp_eq, Bool.false_eq_true, Bool.true_eq_false, reduceCtorEq, false_iff, true_iff, iff_true, iff_false, and_true, true_and, and_false, false_and, reduceIte, ite_true, ite_false, eq_self] at *)) <;> omega), (by first | assumption | (((try simp only [vp_in_iff, Int32.lt_iff_toInt_lt, Int32.le_iff_toInt_le, ← Int32.toInt_inj, Int32.reduceToInt, n_1, n_2, n_8, Int32.toNatClampNeg, Int64.lt_iff_toInt_lt, Int64.le_iff_toInt_le, ← Int64.toInt_inj, Int64.reduceToInt, Int32.toInt_toInt64, lg_cmp_ge, lg_cmp_le, lg_cmp_gt, lg_cmp_lt, lg_cmp_eq, Bool.false_eq_true, Bool.true_eq_false, reduceCtorEq, false_iff, true_iff, iff_true, iff_false, and_true, true_and, and_false, false_and, reduceIte, ite_true, ite_false, eq_self] at *)) <;> omega)), (by first | assumption | (((try simp only [vp_in_iff, Int32.lt_iff_toInt_lt, Int32.le_iff_toInt_le, ← Int32.toInt_inj, Int32.reduceToInt, n_1, n_2, n_8, Int32.toNatClampNeg, Int64.lt_iff_toInt_lt, Int64.le_iff_toInt_le, ← Int64.toInt_inj, Int64.reduceToInt, Int32.toInt_toInt64, lg_cmp_ge, lg_cmp_le, lg_cmp_gt, lg_cmp_lt, lg_cmp_eq, Bool.false_eq_true, Bool.true_eq_false, reduceCtorEq, false_iff, true_iff, iff_true, iff_false, and_true, true_and, and_false, false_and, reduceIte, ite_true, ite_false, eq_self] at *)) <;> omega)), trivial⟩ rfl
              · refine wa_aload_n (i := 0) rfl rfl ?_
                refine wa_getr ck_12 fl_12_247 ly_84 rf_84_93 ?_
                refine wa_iload_n (i := 1) rfl rfl ?_
                refine wa_iald ly_152 (by ((try simp only [vp_in_iff, Int32.lt_iff_toInt_lt, Int32.le_iff_toInt_le, ← Int32.toInt_inj, Int32.reduceToInt, n_1, n_2, n_8, Int32.toNatClampNeg, Int64.lt_iff_toInt_lt, Int64.le_iff_toInt_le, ← Int64.toInt_inj, Int64.reduceToInt, Int32.toInt_toInt64, lg_cmp_ge, lg_cmp_le, lg_cmp_gt, lg_cmp_lt, lg_cmp_eq, Bool.false_eq_true, Bool.true_eq_false, reduceCtorEq, false_iff, true_iff, iff_true, iff_false, and_true, true_and, and_false, false_and, reduceIte, ite_true, ite_false, eq_self] at *)) <;> omega) ?_
                refine wa_top (fun v14 hv14 => ?_)
                have qv14 := hv14
                clear hv14
                refine wa_iload_n (i := 2) rfl rfl ?_
                refine wa_icmp_ne o_X12_collectRows_57 (by decide) (fun h15 => ?_) (fun h15 => ?_)
                · refine wa_iload_n (i := 2) rfl rfl ?_
                  refine wa_aload_n (i := 0) rfl rfl ?_
                  refine wa_getr ck_12 fl_12_235 ly_84 rf_84_89 ?_
                  refine wa_iload_n (i := 1) rfl rfl ?_
                  refine wa_iald ly_156 (by ((try simp only [vp_in_iff, Int32.lt_iff_toInt_lt, Int32.le_iff_toInt_le, ← Int32.toInt_inj, Int32.reduceToInt, n_1, n_2, n_8, Int32.toNatClampNeg, Int64.lt_iff_toInt_lt, Int64.le_iff_toInt_le, ← Int64.toInt_inj, Int64.reduceToInt, Int32.toInt_toInt64, lg_cmp_ge, lg_cmp_le, lg_cmp_gt, lg_cmp_lt, lg_cmp_eq, Bool.false_eq_true, Bool.true_eq_false, reduceCtorEq, false_iff, true_iff, iff_true, iff_false, and_true, true_and, and_false, false_and, reduceIte, ite_true, ite_false, eq_self] at *)) <;> omega) ?_
                  refine wa_top (fun v16 hv16 => ?_)
                  have rv16 : 0 ≤ v16.toInt ∧ v16.toInt ≤ 24 := by rw [← hv16]; exact ar_at (ar_fm Fs6 rfl rfl A_156) _
                  have qv16 := hv16
                  clear hv16
                  refine wa_icmp_ge o_X12_collectRows_123 (by decide) (fun h17 => ?_) (fun h17 => ?_)
                  · refine wa_iinc (v := (1)) (lv' := fun y18 => [(2, .int y18), (0, .ref 84), (1, .int l1)]) (by decide) rfl (by decide) (fun _ => rfl) (fun y18 hy18 => ?_)
                    have ty18 := i_addT hy18.symm
                    clear hy18
                    refine wa_goto o_X12_collectRows_17 (by decide) ?_
                    refine wa_pick [1, 2, 0] rfl ?_
                    exact ih7 _ (by ((try simp only [vp_in_iff, Int32.lt_iff_toInt_lt, Int32.le_iff_toInt_le, ← Int32.toInt_inj, Int32.reduceToInt, n_1, n_2, n_8, Int32.toNatClampNeg, Int64.lt_iff_toInt_lt, Int64.le_iff_toInt_le, ← Int64.toInt_inj, Int64.reduceToInt, Int32.toInt_toInt64, lg_cmp_ge, lg_cmp_le, lg_cmp_gt, lg_cmp_lt, lg_cmp_eq, Bool.false_eq_true, Bool.true_eq_false, reduceCtorEq, false_iff, true_iff, iff_true, iff_false, and_true, true_and, and_false, false_and, reduceIte, ite_true, ite_false, eq_self] at *)) <;> omega) _ _ ⟨Fs6, (khi8_0), (by first | assumption | (((try simp only [vp_in_iff, Int32.lt_iff_toInt_lt, Int32.le_iff_toInt_le, ← Int32.toInt_inj, Int32.reduceToInt, n_1, n_2, n_8, Int32.toNatClampNeg, Int64.lt_iff_toInt_lt, Int64.le_iff_toInt_le, ← Int64.toInt_inj, Int64.reduceToInt, Int32.toInt_toInt64, lg_cmp_ge, lg_cmp_le, lg_cmp_gt, lg_cmp_lt, lg_cmp_eq, Bool.false_eq_true, Bool.true_eq_false, reduceCtorEq, false_iff, true_iff, iff_true, iff_false, and_true, true_and, and_false, false_and, reduceIte, ite_true, ite_false, eq_self] at *)) <;> omega)), (by ((try simp only [vp_in_iff, Int32.lt_iff_toInt_lt, Int32.le_iff_toInt_le, ← Int32.toInt_inj, Int32.reduceToInt, n_1, n_2, n_8, Int32.toNatClampNeg, Int64.lt_iff_toInt_lt, Int64.le_iff_toInt_le, ← Int64.toInt_inj, Int64.reduceToInt, Int32.toInt_toInt64, lg_cmp_ge, lg_cmp_le, lg_cmp_gt, lg_cmp_lt, lg_cmp_eq, Bool.false_eq_true, Bool.true_eq_false, reduceCtorEq, false_iff, true_iff, iff_true, iff_false, and_true, true_and, and_false, false_and, reduceIte, ite_true, ite_false, eq_self] at *)) <;> omega), (by first | assumption | (((try simp only [vp_in_iff, Int32.lt_iff_toInt_lt, Int32.le_iff_toInt_le, ← Int32.toInt_inj, Int32.reduceToInt, n_1, n_2, n_8, Int32.toNatClampNeg, Int64.lt_iff_toInt_lt, Int64.le_iff_toInt_le, ← Int64.toInt_inj, Int64.reduceToInt, Int32.toInt_toInt64, lg_cmp_ge, lg_cmp_le, lg_cmp_gt, lg_cmp_lt, lg_cmp_eq, Bool.false_eq_true, Bool.true_eq_false, reduceCtorEq, false_iff, true_iff, iff_true, iff_false, and_true, true_and, and_false, false_and, reduceIte, ite_true, ite_false, eq_self] at *)) <;> omega)), (by first | assumption | (((try simp only [vp_in_iff, Int32.lt_iff_toInt_lt, Int32.le_iff_toInt_le, ← Int32.toInt_inj, Int32.reduceToInt, n_1, n_2, n_8, Int32.toNatClampNeg, Int64.lt_iff_toInt_lt, Int64.le_iff_toInt_le, ← Int64.toInt_inj, Int64.reduceToInt, Int32.toInt_toInt64, lg_cmp_ge, lg_cmp_le, lg_cmp_gt, lg_cmp_lt, lg_cmp_eq, Bool.false_eq_true, Bool.true_eq_false, reduceCtorEq, false_iff, true_iff, iff_true, iff_false, and_true, true_and, and_false, false_and, reduceIte, ite_true, ite_false, eq_self] at *)) <;> omega)), trivial⟩ rfl
                  · have mh17 := nle_mx h17
                    refine wa_bipush (v := 24) (by decide) ?_
                    refine wa_iload_n (i := 1) rfl rfl ?_
                    refine wa_imul ?_
                    refine wa_top (fun v19 hv19 => ?_)
                    have tv19 := i_mulT hv19
                    clear hv19
                    refine wa_iload_n (i := 2) rfl rfl ?_
                    refine wa_iadd ?_
                    refine wa_top (fun v20 hv20 => ?_)
                    have tv20 := i_addT hv20
                    clear hv20
                    refine wa_istore_nD (lv' := [(3, .int v20), (0, .ref 84), (1, .int l1), (2, .int l2)]) (i := 3) rfl (by decide) rfl ?_
                    refine wa_iconst (v := 0) (by decide) ?_
                    refine wa_istoreD (lv' := [(4, .int 0), (3, .int v20), (0, .ref 84), (1, .int l1), (2, .int l2)]) (by decide) rfl ?_
                    refine wa_pick [2, 3, 4, 1, 0] rfl ?_
                    have hi23 : ∀ (n9_77 : Nat) (l4 : Int32) (s21 : St), ((Fm [104, 105, 147] [101, 102, 160] σ s21) ∧ (gi s21 84 33 = gi σ 84 33) ∧ (gi s21 84 160 = gi s6 84 160) ∧ (gl s21 84 101 = gl s6 84 101) ∧ (0 ≤ l4.toInt) ∧ (True)) → (2147483647 - l4.toInt).toNat = n9_77 → WA G M_X12_collectRows (ZM G M_X12_collectRows d (fun r σ' => Fm [104, 105, 147] [101, 102, 160] σ σ' ∧ (0 ≤ (gi σ' 84 160).toInt ∧ (gi σ' 84 160).toInt ≤ 600) ∧ True)) B_X12_collectRows_77 [(0, .ref 84), (1, .int l1), (2, .int l2), (3, .int v20), (4, .int l4)] [] s21 := by
                      intro n9_77
                      induction n9_77 using Nat.strongRecOn with
                      | _ n9_77 ih22 =>
                        intro l4 s21 i9 m9_77
                        obtain ⟨Fs21, khi23_0, khi23_1, khi23_2, jhi23_0, -⟩ := i9
                        have ul4 := Int32.toInt_lt l4
                        have wl4 := Int32.le_toInt l4
                        refine wa_iload rfl ?_
                        refine wa_iconst (v := 4) (by decide) ?_
                        refine wa_icmp_ge o_X12_collectRows_108 (by decide) (fun h24 => ?_) (fun h24 => ?_)
                        · refine wa_aload_n (i := 0) rfl rfl ?_
                          refine wa_aload_n (i := 0) rfl rfl ?_
                          refine wa_getr ck_12 fl_12_229 ly_84 rf_84_87 ?_
                          refine wa_iload_n (i := 3) rfl rfl ?_
                          refine wa_iald ly_158 (by ((try simp only [vp_in_iff, Int32.lt_iff_toInt_lt, Int32.le_iff_toInt_le, ← Int32.toInt_inj, Int32.reduceToInt, n_1, n_2, n_8, Int32.toNatClampNeg, Int64.lt_iff_toInt_lt, Int64.le_iff_toInt_le, ← Int64.toInt_inj, Int64.reduceToInt, Int32.toInt_toInt64, lg_cmp_ge, lg_cmp_le, lg_cmp_gt, lg_cmp_lt, lg_cmp_eq, Bool.false_eq_true, Bool.true_eq_false, reduceCtorEq, false_iff, true_iff, iff_true, iff_false, and_true, true_and, and_false, false_and, reduceIte, ite_true, ite_false, eq_self] at *)) <;> omega) ?_
                          refine wa_top (fun v25 hv25 => ?_)
                          have rv25 : -99999 ≤ v25.toInt ∧ v25.toInt ≤ 99999 := by rw [← hv25]; exact ar_at (ar_fm Fs21 rfl rfl A_158) _
                          clear hv25
                          refine wa_i2l ?_
                          refine wa_putl ck_12 fl_12_736 ly_84 (fun s26 hs26 => ?_)
                          have Fs26 : Fm [104, 105, 147] [101, 102, 160] σ s26 := by rw [hs26]; exact Fm.sl Fs21 rfl
                          refine wa_aload_n (i := 0) rfl rfl ?_
                          refine wa_Vv (d9 := d - 1) [] [] (sp_X12_addNewRow G (d := d - 1) (by omega) s26  (by rw [(nx_gi_sl hs26).trans (khi23_1)]; first | assumption | exact Or.inl rfl | exact Or.inr rfl | (((try simp only [vp_in_iff, Int32.lt_iff_toInt_lt, Int32.le_iff_toInt_le, ← Int32.toInt_inj, Int32.reduceToInt, n_1, n_2, n_8, Int32.toNatClampNeg, Int64.lt_iff_toInt_lt, Int64.le_iff_toInt_le, ← Int64.toInt_inj, Int64.reduceToInt, Int32.toInt_toInt64, lg_cmp_ge, lg_cmp_le, lg_cmp_gt, lg_cmp_lt, lg_cmp_eq, Bool.false_eq_true, Bool.true_eq_false, reduceCtorEq, false_iff, true_iff, iff_true, iff_false, and_true, true_and, and_false, false_and, reduceIte, ite_true, ite_false, eq_self] at *)) <;> omega))) (rfl) rfl rfl (zr (by omega)) mk_X12_addNewRow ly_84 ml_12_1076 (Nat.le_of_ble_eq_true rfl) (fun s27 hs27 => ?_)
                          obtain ⟨fs27, cx28_1, -⟩ := hs27
                          rw [(nx_gi_sl hs26).trans (khi23_1)] at cx28_1
                          have Fs27 : Fm [104, 105, 147] [101, 102, 160] σ s27 := Fm.tr Fs26 (Fm.wd fs27 rfl rfl)
                          refine wa_iinc (v := (1)) (lv' := fun y29 => [(2, .int y29), (0, .ref 84), (1, .int l1), (3, .int v20), (4, .int l4)]) (by decide) rfl (by decide) (fun _ => rfl) (fun y29 hy29 => ?_)
                          have ty29 := i_addT hy29.symm
                          clear hy29
                          refine wa_goto o_X12_collectRows_17 (by decide) ?_
                          refine wa_pick [1, 2, 0] rfl ?_
                          exact ih7 _ (by ((try simp only [vp_in_iff, Int32.lt_iff_toInt_lt, Int32.le_iff_toInt_le, ← Int32.toInt_inj, Int32.reduceToInt, n_1, n_2, n_8, Int32.toNatClampNeg, Int64.lt_iff_toInt_lt, Int64.le_iff_toInt_le, ← Int64.toInt_inj, Int64.reduceToInt, Int32.toInt_toInt64, lg_cmp_ge, lg_cmp_le, lg_cmp_gt, lg_cmp_lt, lg_cmp_eq, Bool.false_eq_true, Bool.true_eq_false, reduceCtorEq, false_iff, true_iff, iff_true, iff_false, and_true, true_and, and_false, false_and, reduceIte, ite_true, ite_false, eq_self] at *)) <;> omega) _ _ ⟨Fs27, ((Fm.gi fs27 (q := 84) (k := 33) rfl rfl).trans ((nx_gi_sl hs26).trans (khi23_0))), (by first | assumption | (((try simp only [vp_in_iff, Int32.lt_iff_toInt_lt, Int32.le_iff_toInt_le, ← Int32.toInt_inj, Int32.reduceToInt, n_1, n_2, n_8, Int32.toNatClampNeg, Int64.lt_iff_toInt_lt, Int64.le_iff_toInt_le, ← Int64.toInt_inj, Int64.reduceToInt, Int32.toInt_toInt64, lg_cmp_ge, lg_cmp_le, lg_cmp_gt, lg_cmp_lt, lg_cmp_eq, Bool.false_eq_true, Bool.true_eq_false, reduceCtorEq, false_iff, true_iff, iff_true, iff_false, and_true, true_and, and_false, false_and, reduceIte, ite_true, ite_false, eq_self] at *)) <;> omega)), (by ((try simp only [vp_in_iff, Int32.lt_iff_toInt_lt, Int32.le_iff_toInt_le, ← Int32.toInt_inj, Int32.reduceToInt, n_1, n_2, n_8, Int32.toNatClampNeg, Int64.lt_iff_toInt_lt, Int64.le_iff_toInt_le, ← Int64.toInt_inj, Int64.reduceToInt, Int32.toInt_toInt64, lg_cmp_ge, lg_cmp_le, lg_cmp_gt, lg_cmp_lt, lg_cmp_eq, Bool.false_eq_true, Bool.true_eq_false, reduceCtorEq, false_iff, true_iff, iff_true, iff_false, and_true, true_and, and_false, false_and, reduceIte, ite_true, ite_false, eq_self] at *)) <;> omega), (by first | assumption | (((try simp only [vp_in_iff, Int32.lt_iff_toInt_lt, Int32.le_iff_toInt_le, ← Int32.toInt_inj, Int32.reduceToInt, n_1, n_2, n_8, Int32.toNatClampNeg, Int64.lt_iff_toInt_lt, Int64.le_iff_toInt_le, ← Int64.toInt_inj, Int64.reduceToInt, Int32.toInt_toInt64, lg_cmp_ge, lg_cmp_le, lg_cmp_gt, lg_cmp_lt, lg_cmp_eq, Bool.false_eq_true, Bool.true_eq_false, reduceCtorEq, false_iff, true_iff, iff_true, iff_false, and_true, true_and, and_false, false_and, reduceIte, ite_true, ite_false, eq_self] at *)) <;> omega)), (by first | assumption | (((try simp only [vp_in_iff, Int32.lt_iff_toInt_lt, Int32.le_iff_toInt_le, ← Int32.toInt_inj, Int32.reduceToInt, n_1, n_2, n_8, Int32.toNatClampNeg, Int64.lt_iff_toInt_lt, Int64.le_iff_toInt_le, ← Int64.toInt_inj, Int64.reduceToInt, Int32.toInt_toInt64, lg_cmp_ge, lg_cmp_le, lg_cmp_gt, lg_cmp_lt, lg_cmp_eq, Bool.false_eq_true, Bool.true_eq_false, reduceCtorEq, false_iff, true_iff, iff_true, iff_false, and_true, true_and, and_false, false_and, reduceIte, ite_true, ite_false, eq_self] at *)) <;> omega)), trivial⟩ rfl
                        · have mh24 := nle_mx h24
                          refine wa_aload_n (i := 0) rfl rfl ?_
                          refine wa_getr ck_12 fl_12_262 ly_84 rf_84_100 ?_
                          refine wa_iload rfl ?_
                          refine wa_aload_n (i := 0) rfl rfl ?_
                          refine wa_getr ck_12 fl_12_226 ly_84 rf_84_86 ?_
                          refine wa_iconst (v := 4) (by decide) ?_
                          refine wa_iload_n (i := 3) rfl rfl ?_
                          refine wa_imul ?_
                          refine wa_top (fun v30 hv30 => ?_)
                          have tv30 := i_mulT hv30
                          clear hv30
                          refine wa_iload rfl ?_
                          refine wa_iadd ?_
                          refine wa_top (fun v31 hv31 => ?_)
                          have tv31 := i_addT hv31
                          clear hv31
                          refine wa_iald ly_159 (by ((try simp only [vp_in_iff, Int32.lt_iff_toInt_lt, Int32.le_iff_toInt_le, ← Int32.toInt_inj, Int32.reduceToInt, n_1, n_2, n_8, Int32.toNatClampNeg, Int64.lt_iff_toInt_lt, Int64.le_iff_toInt_le, ← Int64.toInt_inj, Int64.reduceToInt, Int32.toInt_toInt64, lg_cmp_ge, lg_cmp_le, lg_cmp_gt, lg_cmp_lt, lg_cmp_eq, Bool.false_eq_true, Bool.true_eq_false, reduceCtorEq, false_iff, true_iff, iff_true, iff_false, and_true, true_and, and_false, false_and, reduceIte, ite_true, ite_false, eq_self] at *)) <;> omega) ?_
                          refine wa_top (fun v32 hv32 => ?_)
                          have rv32 : -20 ≤ v32.toInt ∧ v32.toInt ≤ 20 := by rw [← hv32]; exact ar_at (ar_fm Fs21 rfl rfl A_159) _
                          clear hv32
                          refine wa_i2l ?_
                          refine wa_last ly_147 (by ((try simp only [vp_in_iff, Int32.lt_iff_toInt_lt, Int32.le_iff_toInt_le, ← Int32.toInt_inj, Int32.reduceToInt, n_1, n_2, n_8, Int32.toNatClampNeg, Int64.lt_iff_toInt_lt, Int64.le_iff_toInt_le, ← Int64.toInt_inj, Int64.reduceToInt, Int32.toInt_toInt64, lg_cmp_ge, lg_cmp_le, lg_cmp_gt, lg_cmp_lt, lg_cmp_eq, Bool.false_eq_true, Bool.true_eq_false, reduceCtorEq, false_iff, true_iff, iff_true, iff_false, and_true, true_and, and_false, false_and, reduceIte, ite_true, ite_false, eq_self] at *)) <;> omega) (fun s33 hs33 => ?_)
                          have Fs33 : Fm [104, 105, 147] [101, 102, 160] σ s33 := by rw [hs33]; exact Fm.sl Fs21 rfl
                          refine wa_iinc (v := (1)) (lv' := fun y34 => [(4, .int y34), (0, .ref 84), (1, .int l1), (2, .int l2), (3, .int v20)]) (by decide) rfl (by decide) (fun _ => rfl) (fun y34 hy34 => ?_)
                          have ty34 := i_addT hy34.symm
                          clear hy34
                          refine wa_goto o_X12_collectRows_77 (by decide) ?_
                          refine wa_pick [1, 2, 3, 4, 0] rfl ?_
                          exact ih22 _ (by ((try simp only [vp_in_iff, Int32.lt_iff_toInt_lt, Int32.le_iff_toInt_le, ← Int32.toInt_inj, Int32.reduceToInt, n_1, n_2, n_8, Int32.toNatClampNeg, Int64.lt_iff_toInt_lt, Int64.le_iff_toInt_le, ← Int64.toInt_inj, Int64.reduceToInt, Int32.toInt_toInt64, lg_cmp_ge, lg_cmp_le, lg_cmp_gt, lg_cmp_lt, lg_cmp_eq, Bool.false_eq_true, Bool.true_eq_false, reduceCtorEq, false_iff, true_iff, iff_true, iff_false, and_true, true_and, and_false, false_and, reduceIte, ite_true, ite_false, eq_self] at *)) <;> omega) _ _ ⟨Fs33, ((nx_gi_sl hs33).trans (khi23_0)), ((nx_gi_sl hs33).trans (khi23_1)), ((nxq_gl_sl hs33 (by decide)).trans (khi23_2)), (by ((try simp only [vp_in_iff, Int32.lt_iff_toInt_lt, Int32.le_iff_toInt_le, ← Int32.toInt_inj, Int32.reduceToInt, n_1, n_2, n_8, Int32.toNatClampNeg, Int64.lt_iff_toInt_lt, Int64.le_iff_toInt_le, ← Int64.toInt_inj, Int64.reduceToInt, Int32.toInt_toInt64, lg_cmp_ge, lg_cmp_le, lg_cmp_gt, lg_cmp_lt, lg_cmp_eq, Bool.false_eq_true, Bool.true_eq_false, reduceCtorEq, false_iff, true_iff, iff_true, iff_false, and_true, true_and, and_false, false_and, reduceIte, ite_true, ite_false, eq_self] at *)) <;> omega), trivial⟩ rfl
                    exact hi23 _ _ _ ⟨Fs6, (khi8_0), (rfl), (rfl), (by ((try simp only [vp_in_iff, Int32.lt_iff_toInt_lt, Int32.le_iff_toInt_le, ← Int32.toInt_inj, Int32.reduceToInt, n_1, n_2, n_8, Int32.toNatClampNeg, Int64.lt_iff_toInt_lt, Int64.le_iff_toInt_le, ← Int64.toInt_inj, Int64.reduceToInt, Int32.toInt_toInt64, lg_cmp_ge, lg_cmp_le, lg_cmp_gt, lg_cmp_lt, lg_cmp_eq, Bool.false_eq_true, Bool.true_eq_false, reduceCtorEq, false_iff, true_iff, iff_true, iff_false, and_true, true_and, and_false, false_and, reduceIte, ite_true, ite_false, eq_self] at *)) <;> omega), trivial⟩ rfl
                · refine wa_aload_n (i := 0) rfl rfl ?_
                  refine wa_ldc2 (v := (-1)) (allW_in (kT_12 _ (List.mem_of_getElem? (i := 97) rfl)) rfl) ?_
                  refine wa_Vv (d9 := d - 1) [.long _] [] (sp_X12_clearHere G (d := d - 1) (by omega) s6 _) (rfl) rfl rfl (zr (by omega)) mk_X12_clearHere ly_84 ml_12_771 (Nat.le_of_ble_eq_true rfl) (fun s35 hs35 => ?_)
                  obtain ⟨fs35, -⟩ := hs35
                  have Fs35 : Fm [104, 105, 147] [101, 102, 160] σ s35 := Fm.tr Fs6 (Fm.wd fs35 rfl rfl)
                  refine wa_aload_n (i := 0) rfl rfl ?_
                  refine wa_Vv (d9 := d - 1) [] [] (sp_X12_addNewRow G (d := d - 1) (by omega) s35  (by rw [Fm.gi fs35 (q := 84) (k := 160) rfl rfl]; first | assumption | exact Or.inl rfl | exact Or.inr rfl | (((try simp only [vp_in_iff, Int32.lt_iff_toInt_lt, Int32.le_iff_toInt_le, ← Int32.toInt_inj, Int32.reduceToInt, n_1, n_2, n_8, Int32.toNatClampNeg, Int64.lt_iff_toInt_lt, Int64.le_iff_toInt_le, ← Int64.toInt_inj, Int64.reduceToInt, Int32.toInt_toInt64, lg_cmp_ge, lg_cmp_le, lg_cmp_gt, lg_cmp_lt, lg_cmp_eq, Bool.false_eq_true, Bool.true_eq_false, reduceCtorEq, false_iff, true_iff, iff_true, iff_false, and_true, true_and, and_false, false_and, reduceIte, ite_true, ite_false, eq_self] at *)) <;> omega))) (rfl) rfl rfl (zr (by omega)) mk_X12_addNewRow ly_84 ml_12_1076 (Nat.le_of_ble_eq_true rfl) (fun s37 hs37 => ?_)
                  obtain ⟨fs37, cx38_1, -⟩ := hs37
                  rw [Fm.gi fs35 (q := 84) (k := 160) rfl rfl] at cx38_1
                  have Fs37 : Fm [104, 105, 147] [101, 102, 160] σ s37 := Fm.tr Fs35 (Fm.wd fs37 rfl rfl)
                  refine wa_iload_n (i := 2) rfl rfl ?_
                  refine wa_aload_n (i := 0) rfl rfl ?_
                  refine wa_getr ck_12 fl_12_235 ly_84 rf_84_89 ?_
                  refine wa_iload_n (i := 1) rfl rfl ?_
                  refine wa_iald ly_156 (by ((try simp only [vp_in_iff, Int32.lt_iff_toInt_lt, Int32.le_iff_toInt_le, ← Int32.toInt_inj, Int32.reduceToInt, n_1, n_2, n_8, Int32.toNatClampNeg, Int64.lt_iff_toInt_lt, Int64.le_iff_toInt_le, ← Int64.toInt_inj, Int64.reduceToInt, Int32.toInt_toInt64, lg_cmp_ge, lg_cmp_le, lg_cmp_gt, lg_cmp_lt, lg_cmp_eq, Bool.false_eq_true, Bool.true_eq_false, reduceCtorEq, false_iff, true_iff, iff_true, iff_false, and_true, true_and, and_false, false_and, reduceIte, ite_true, ite_false, eq_self] at *)) <;> omega) ?_
                  refine wa_top (fun v39 hv39 => ?_)
                  have rv39 : 0 ≤ v39.toInt ∧ v39.toInt ≤ 24 := by rw [← hv39]; exact ar_at (ar_fm fs37 rfl rfl (ar_fm fs35 rfl rfl (ar_fm Fs6 rfl rfl A_156))) _
                  have qv39 := hv39
                  clear hv39
                  refine wa_icmp_ge o_X12_collectRows_123 (by decide) (fun h40 => ?_) (fun h40 => ?_)
                  · refine wa_iinc (v := (1)) (lv' := fun y41 => [(2, .int y41), (0, .ref 84), (1, .int l1)]) (by decide) rfl (by decide) (fun _ => rfl) (fun y41 hy41 => ?_)
                    have ty41 := i_addT hy41.symm
                    clear hy41
                    refine wa_goto o_X12_collectRows_17 (by decide) ?_
                    refine wa_pick [1, 2, 0] rfl ?_
                    exact ih7 _ (by ((try simp only [vp_in_iff, Int32.lt_iff_toInt_lt, Int32.le_iff_toInt_le, ← Int32.toInt_inj, Int32.reduceToInt, n_1, n_2, n_8, Int32.toNatClampNeg, Int64.lt_iff_toInt_lt, Int64.le_iff_toInt_le, ← Int64.toInt_inj, Int64.reduceToInt, Int32.toInt_toInt64, lg_cmp_ge, lg_cmp_le, lg_cmp_gt, lg_cmp_lt, lg_cmp_eq, Bool.false_eq_true, Bool.true_eq_false, reduceCtorEq, false_iff, true_iff, iff_true, iff_false, and_true, true_and, and_false, false_and, reduceIte, ite_true, ite_false, eq_self] at *)) <;> omega) _ _ ⟨Fs37, ((Fm.gi fs37 (q := 84) (k := 33) rfl rfl).trans ((Fm.gi fs35 (q := 84) (k := 33) rfl rfl).trans (khi8_0))), (by first | assumption | (((try simp only [vp_in_iff, Int32.lt_iff_toInt_lt, Int32.le_iff_toInt_le, ← Int32.toInt_inj, Int32.reduceToInt, n_1, n_2, n_8, Int32.toNatClampNeg, Int64.lt_iff_toInt_lt, Int64.le_iff_toInt_le, ← Int64.toInt_inj, Int64.reduceToInt, Int32.toInt_toInt64, lg_cmp_ge, lg_cmp_le, lg_cmp_gt, lg_cmp_lt, lg_cmp_eq, Bool.false_eq_true, Bool.true_eq_false, reduceCtorEq, false_iff, true_iff, iff_true, iff_false, and_true, true_and, and_false, false_and, reduceIte, ite_true, ite_false, eq_self] at *)) <;> omega)), (by ((try simp only [vp_in_iff, Int32.lt_iff_toInt_lt, Int32.le_iff_toInt_le, ← Int32.toInt_inj, Int32.reduceToInt, n_1, n_2, n_8, Int32.toNatClampNeg, Int64.lt_iff_toInt_lt, Int64.le_iff_toInt_le, ← Int64.toInt_inj, Int64.reduceToInt, Int32.toInt_toInt64, lg_cmp_ge, lg_cmp_le, lg_cmp_gt, lg_cmp_lt, lg_cmp_eq, Bool.false_eq_true, Bool.true_eq_false, reduceCtorEq, false_iff, true_iff, iff_true, iff_false, and_true, true_and, and_false, false_and, reduceIte, ite_true, ite_false, eq_self] at *)) <;> omega), (by first | assumption | (((try simp only [vp_in_iff, Int32.lt_iff_toInt_lt, Int32.le_iff_toInt_le, ← Int32.toInt_inj, Int32.reduceToInt, n_1, n_2, n_8, Int32.toNatClampNeg, Int64.lt_iff_toInt_lt, Int64.le_iff_toInt_le, ← Int64.toInt_inj, Int64.reduceToInt, Int32.toInt_toInt64, lg_cmp_ge, lg_cmp_le, lg_cmp_gt, lg_cmp_lt, lg_cmp_eq, Bool.false_eq_true, Bool.true_eq_false, reduceCtorEq, false_iff, true_iff, iff_true, iff_false, and_true, true_and, and_false, false_and, reduceIte, ite_true, ite_false, eq_self] at *)) <;> omega)), (by first | assumption | (((try simp only [vp_in_iff, Int32.lt_iff_toInt_lt, Int32.le_iff_toInt_le, ← Int32.toInt_inj, Int32.reduceToInt, n_1, n_2, n_8, Int32.toNatClampNeg, Int64.lt_iff_toInt_lt, Int64.le_iff_toInt_le, ← Int64.toInt_inj, Int64.reduceToInt, Int32.toInt_toInt64, lg_cmp_ge, lg_cmp_le, lg_cmp_gt, lg_cmp_lt, lg_cmp_eq, Bool.false_eq_true, Bool.true_eq_false, reduceCtorEq, false_iff, true_iff, iff_true, iff_false, and_true, true_and, and_false, false_and, reduceIte, ite_true, ite_false, eq_self] at *)) <;> omega)), trivial⟩ rfl
                  · have mh40 := nle_mx h40
                    refine wa_bipush (v := 24) (by decide) ?_
                    refine wa_iload_n (i := 1) rfl rfl ?_
                    refine wa_imul ?_
                    refine wa_top (fun v42 hv42 => ?_)
                    have tv42 := i_mulT hv42
                    clear hv42
                    refine wa_iload_n (i := 2) rfl rfl ?_
                    refine wa_iadd ?_
                    refine wa_top (fun v43 hv43 => ?_)
                    have tv43 := i_addT hv43
                    clear hv43
                    refine wa_istore_nD (lv' := [(3, .int v43), (0, .ref 84), (1, .int l1), (2, .int l2)]) (i := 3) rfl (by decide) rfl ?_
                    refine wa_iconst (v := 0) (by decide) ?_
                    refine wa_istoreD (lv' := [(4, .int 0), (3, .int v43), (0, .ref 84), (1, .int l1), (2, .int l2)]) (by decide) rfl ?_
                    refine wa_pick [2, 3, 4, 1, 0] rfl ?_
                    have hi46 : ∀ (n9_77 : Nat) (l4 : Int32) (s44 : St), ((Fm [104, 105, 147] [101, 102, 160] σ s44) ∧ (gi s44 84 33 = gi σ 84 33) ∧ (gi s44 84 160 = gi s37 84 160) ∧ (gl s44 84 101 = gl s35 84 101) ∧ (0 ≤ l4.toInt) ∧ (True)) → (2147483647 - l4.toInt).toNat = n9_77 → WA G M_X12_collectRows (ZM G M_X12_collectRows d (fun r σ' => Fm [104, 105, 147] [101, 102, 160] σ σ' ∧ (0 ≤ (gi σ' 84 160).toInt ∧ (gi σ' 84 160).toInt ≤ 600) ∧ True)) B_X12_collectRows_77 [(0, .ref 84), (1, .int l1), (2, .int l2), (3, .int v43), (4, .int l4)] [] s44 := by
                      intro n9_77
                      induction n9_77 using Nat.strongRecOn with
                      | _ n9_77 ih45 =>
                        intro l4 s44 i9 m9_77
                        obtain ⟨Fs44, khi46_0, khi46_1, khi46_2, jhi46_0, -⟩ := i9
                        have ul4 := Int32.toInt_lt l4
                        have wl4 := Int32.le_toInt l4
                        refine wa_iload rfl ?_
                        refine wa_iconst (v := 4) (by decide) ?_
                        refine wa_icmp_ge o_X12_collectRows_108 (by decide) (fun h47 => ?_) (fun h47 => ?_)
                        · refine wa_aload_n (i := 0) rfl rfl ?_
                          refine wa_aload_n (i := 0) rfl rfl ?_
                          refine wa_getr ck_12 fl_12_229 ly_84 rf_84_87 ?_
                          refine wa_iload_n (i := 3) rfl rfl ?_
                          refine wa_iald ly_158 (by ((try simp only [vp_in_iff, Int32.lt_iff_toInt_lt, Int32.le_iff_toInt_le, ← Int32.toInt_inj, Int32.reduceToInt, n_1, n_2, n_8, Int32.toNatClampNeg, Int64.lt_iff_toInt_lt, Int64.le_iff_toInt_le, ← Int64.toInt_inj, Int64.reduceToInt, Int32.toInt_toInt64, lg_cmp_ge, lg_cmp_le, lg_cmp_gt, lg_cmp_lt, lg_cmp_eq, Bool.false_eq_true, Bool.true_eq_false, reduceCtorEq, false_iff, true_iff, iff_true, iff_false, and_true, true_and, and_false, false_and, reduceIte, ite_true, ite_false, eq_self] at *)) <;> omega) ?_
                          refine wa_top (fun v48 hv48 => ?_)
                          have rv48 : -99999 ≤ v48.toInt ∧ v48.toInt ≤ 99999 := by rw [← hv48]; exact ar_at (ar_fm Fs44 rfl rfl A_158) _
                          clear hv48
                          refine wa_i2l ?_
                          refine wa_putl ck_12 fl_12_736 ly_84 (fun s49 hs49 => ?_)
                          have Fs49 : Fm [104, 105, 147] [101, 102, 160] σ s49 := by rw [hs49]; exact Fm.sl Fs44 rfl
                          refine wa_aload_n (i := 0) rfl rfl ?_
                          refine wa_Vv (d9 := d - 1) [] [] (sp_X12_addNewRow G (d := d - 1) (by omega) s49  (by rw [(nx_gi_sl hs49).trans (khi46_1)]; first | assumption | exact Or.inl rfl | exact Or.inr rfl | (((try simp only [vp_in_iff, Int32.lt_iff_toInt_lt, Int32.le_iff_toInt_le, ← Int32.toInt_inj, Int32.reduceToInt, n_1, n_2, n_8, Int32.toNatClampNeg, Int64.lt_iff_toInt_lt, Int64.le_iff_toInt_le, ← Int64.toInt_inj, Int64.reduceToInt, Int32.toInt_toInt64, lg_cmp_ge, lg_cmp_le, lg_cmp_gt, lg_cmp_lt, lg_cmp_eq, Bool.false_eq_true, Bool.true_eq_false, reduceCtorEq, false_iff, true_iff, iff_true, iff_false, and_true, true_and, and_false, false_and, reduceIte, ite_true, ite_false, eq_self] at *)) <;> omega))) (rfl) rfl rfl (zr (by omega)) mk_X12_addNewRow ly_84 ml_12_1076 (Nat.le_of_ble_eq_true rfl) (fun s50 hs50 => ?_)
                          obtain ⟨fs50, cx51_1, -⟩ := hs50
                          rw [(nx_gi_sl hs49).trans (khi46_1)] at cx51_1
                          have Fs50 : Fm [104, 105, 147] [101, 102, 160] σ s50 := Fm.tr Fs49 (Fm.wd fs50 rfl rfl)
                          refine wa_iinc (v := (1)) (lv' := fun y52 => [(2, .int y52), (0, .ref 84), (1, .int l1), (3, .int v43), (4, .int l4)]) (by decide) rfl (by decide) (fun _ => rfl) (fun y52 hy52 => ?_)
                          have ty52 := i_addT hy52.symm
                          clear hy52
                          refine wa_goto o_X12_collectRows_17 (by decide) ?_
                          refine wa_pick [1, 2, 0] rfl ?_
                          exact ih7 _ (by ((try simp only [vp_in_iff, Int32.lt_iff_toInt_lt, Int32.le_iff_toInt_le, ← Int32.toInt_inj, Int32.reduceToInt, n_1, n_2, n_8, Int32.toNatClampNeg, Int64.lt_iff_toInt_lt, Int64.le_iff_toInt_le, ← Int64.toInt_inj, Int64.reduceToInt, Int32.toInt_toInt64, lg_cmp_ge, lg_cmp_le, lg_cmp_gt, lg_cmp_lt, lg_cmp_eq, Bool.false_eq_true, Bool.true_eq_false, reduceCtorEq, false_iff, true_iff, iff_true, iff_false, and_true, true_and, and_false, false_and, reduceIte, ite_true, ite_false, eq_self] at *)) <;> omega) _ _ ⟨Fs50, ((Fm.gi fs50 (q := 84) (k := 33) rfl rfl).trans ((nx_gi_sl hs49).trans (khi46_0))), (by first | assumption | (((try simp only [vp_in_iff, Int32.lt_iff_toInt_lt, Int32.le_iff_toInt_le, ← Int32.toInt_inj, Int32.reduceToInt, n_1, n_2, n_8, Int32.toNatClampNeg, Int64.lt_iff_toInt_lt, Int64.le_iff_toInt_le, ← Int64.toInt_inj, Int64.reduceToInt, Int32.toInt_toInt64, lg_cmp_ge, lg_cmp_le, lg_cmp_gt, lg_cmp_lt, lg_cmp_eq, Bool.false_eq_true, Bool.true_eq_false, reduceCtorEq, false_iff, true_iff, iff_true, iff_false, and_true, true_and, and_false, false_and, reduceIte, ite_true, ite_false, eq_self] at *)) <;> omega)), (by ((try simp only [vp_in_iff, Int32.lt_iff_toInt_lt, Int32.le_iff_toInt_le, ← Int32.toInt_inj, Int32.reduceToInt, n_1, n_2, n_8, Int32.toNatClampNeg, Int64.lt_iff_toInt_lt, Int64.le_iff_toInt_le, ← Int64.toInt_inj, Int64.reduceToInt, Int32.toInt_toInt64, lg_cmp_ge, lg_cmp_le, lg_cmp_gt, lg_cmp_lt, lg_cmp_eq, Bool.false_eq_true, Bool.true_eq_false, reduceCtorEq, false_iff, true_iff, iff_true, iff_false, and_true, true_and, and_false, false_and, reduceIte, ite_true, ite_false, eq_self] at *)) <;> omega), (by first | assumption | (((try simp only [vp_in_iff, Int32.lt_iff_toInt_lt, Int32.le_iff_toInt_le, ← Int32.toInt_inj, Int32.reduceToInt, n_1, n_2, n_8, Int32.toNatClampNeg, Int64.lt_iff_toInt_lt, Int64.le_iff_toInt_le, ← Int64.toInt_inj, Int64.reduceToInt, Int32.toInt_toInt64, lg_cmp_ge, lg_cmp_le, lg_cmp_gt, lg_cmp_lt, lg_cmp_eq, Bool.false_eq_true, Bool.true_eq_false, reduceCtorEq, false_iff, true_iff, iff_true, iff_false, and_true, true_and, and_false, false_and, reduceIte, ite_true, ite_false, eq_self] at *)) <;> omega)), (by first | assumption | (((try simp only [vp_in_iff, Int32.lt_iff_toInt_lt, Int32.le_iff_toInt_le, ← Int32.toInt_inj, Int32.reduceToInt, n_1, n_2, n_8, Int32.toNatClampNeg, Int64.lt_iff_toInt_lt, Int64.le_iff_toInt_le, ← Int64.toInt_inj, Int64.reduceToInt, Int32.toInt_toInt64, lg_cmp_ge, lg_cmp_le, lg_cmp_gt, lg_cmp_lt, lg_cmp_eq, Bool.false_eq_true, Bool.true_eq_false, reduceCtorEq, false_iff, true_iff, iff_true, iff_false, and_true, true_and, and_false, false_and, reduceIte, ite_true, ite_false, eq_self] at *)) <;> omega)), trivial⟩ rfl
                        · have mh47 := nle_mx h47
                          refine wa_aload_n (i := 0) rfl rfl ?_
                          refine wa_getr ck_12 fl_12_262 ly_84 rf_84_100 ?_
                          refine wa_iload rfl ?_
                          refine wa_aload_n (i := 0) rfl rfl ?_
                          refine wa_getr ck_12 fl_12_226 ly_84 rf_84_86 ?_
                          refine wa_iconst (v := 4) (by decide) ?_
                          refine wa_iload_n (i := 3) rfl rfl ?_
                          refine wa_imul ?_
                          refine wa_top (fun v53 hv53 => ?_)
                          have tv53 := i_mulT hv53
                          clear hv53
                          refine wa_iload rfl ?_
                          refine wa_iadd ?_
                          refine wa_top (fun v54 hv54 => ?_)
                          have tv54 := i_addT hv54
                          clear hv54
                          refine wa_iald ly_159 (by ((try simp only [vp_in_iff, Int32.lt_iff_toInt_lt, Int32.le_iff_toInt_le, ← Int32.toInt_inj, Int32.reduceToInt, n_1, n_2, n_8, Int32.toNatClampNeg, Int64.lt_iff_toInt_lt, Int64.le_iff_toInt_le, ← Int64.toInt_inj, Int64.reduceToInt, Int32.toInt_toInt64, lg_cmp_ge, lg_cmp_le, lg_cmp_gt, lg_cmp_lt, lg_cmp_eq, Bool.false_eq_true, Bool.true_eq_false, reduceCtorEq, false_iff, true_iff, iff_true, iff_false, and_true, true_and, and_false, false_and, reduceIte, ite_true, ite_false, eq_self] at *)) <;> omega) ?_
                          refine wa_top (fun v55 hv55 => ?_)
                          have rv55 : -20 ≤ v55.toInt ∧ v55.toInt ≤ 20 := by rw [← hv55]; exact ar_at (ar_fm Fs44 rfl rfl A_159) _
                          clear hv55
                          refine wa_i2l ?_
                          refine wa_last ly_147 (by ((try simp only [vp_in_iff, Int32.lt_iff_toInt_lt, Int32.le_iff_toInt_le, ← Int32.toInt_inj, Int32.reduceToInt, n_1, n_2, n_8, Int32.toNatClampNeg, Int64.lt_iff_toInt_lt, Int64.le_iff_toInt_le, ← Int64.toInt_inj, Int64.reduceToInt, Int32.toInt_toInt64, lg_cmp_ge, lg_cmp_le, lg_cmp_gt, lg_cmp_lt, lg_cmp_eq, Bool.false_eq_true, Bool.true_eq_false, reduceCtorEq, false_iff, true_iff, iff_true, iff_false, and_true, true_and, and_false, false_and, reduceIte, ite_true, ite_false, eq_self] at *)) <;> omega) (fun s56 hs56 => ?_)
                          have Fs56 : Fm [104, 105, 147] [101, 102, 160] σ s56 := by rw [hs56]; exact Fm.sl Fs44 rfl
                          refine wa_iinc (v := (1)) (lv' := fun y57 => [(4, .int y57), (0, .ref 84), (1, .int l1), (2, .int l2), (3, .int v43)]) (by decide) rfl (by decide) (fun _ => rfl) (fun y57 hy57 => ?_)
                          have ty57 := i_addT hy57.symm
                          clear hy57
                          refine wa_goto o_X12_collectRows_77 (by decide) ?_
                          refine wa_pick [1, 2, 3, 4, 0] rfl ?_
                          exact ih45 _ (by ((try simp only [vp_in_iff, Int32.lt_iff_toInt_lt, Int32.le_iff_toInt_le, ← Int32.toInt_inj, Int32.reduceToInt, n_1, n_2, n_8, Int32.toNatClampNeg, Int64.lt_iff_toInt_lt, Int64.le_iff_toInt_le, ← Int64.toInt_inj, Int64.reduceToInt, Int32.toInt_toInt64, lg_cmp_ge, lg_cmp_le, lg_cmp_gt, lg_cmp_lt, lg_cmp_eq, Bool.false_eq_true, Bool.true_eq_false, reduceCtorEq, false_iff, true_iff, iff_true, iff_false, and_true, true_and, and_false, false_and, reduceIte, ite_true, ite_false, eq_self] at *)) <;> omega) _ _ ⟨Fs56, ((nx_gi_sl hs56).trans (khi46_0)), ((nx_gi_sl hs56).trans (khi46_1)), ((nxq_gl_sl hs56 (by decide)).trans (khi46_2)), (by ((try simp only [vp_in_iff, Int32.lt_iff_toInt_lt, Int32.le_iff_toInt_le, ← Int32.toInt_inj, Int32.reduceToInt, n_1, n_2, n_8, Int32.toNatClampNeg, Int64.lt_iff_toInt_lt, Int64.le_iff_toInt_le, ← Int64.toInt_inj, Int64.reduceToInt, Int32.toInt_toInt64, lg_cmp_ge, lg_cmp_le, lg_cmp_gt, lg_cmp_lt, lg_cmp_eq, Bool.false_eq_true, Bool.true_eq_false, reduceCtorEq, false_iff, true_iff, iff_true, iff_false, and_true, true_and, and_false, false_and, reduceIte, ite_true, ite_false, eq_self] at *)) <;> omega), trivial⟩ rfl
                    exact hi46 _ _ _ ⟨Fs37, ((Fm.gi fs37 (q := 84) (k := 33) rfl rfl).trans ((Fm.gi fs35 (q := 84) (k := 33) rfl rfl).trans (khi8_0))), (rfl), (Fm.gl fs37 (q := 84) (k := 101) rfl rfl), (by ((try simp only [vp_in_iff, Int32.lt_iff_toInt_lt, Int32.le_iff_toInt_le, ← Int32.toInt_inj, Int32.reduceToInt, n_1, n_2, n_8, Int32.toNatClampNeg, Int64.lt_iff_toInt_lt, Int64.le_iff_toInt_le, ← Int64.toInt_inj, Int64.reduceToInt, Int32.toInt_toInt64, lg_cmp_ge, lg_cmp_le, lg_cmp_gt, lg_cmp_lt, lg_cmp_eq, Bool.false_eq_true, Bool.true_eq_false, reduceCtorEq, false_iff, true_iff, iff_true, iff_false, and_true, true_and, and_false, false_and, reduceIte, ite_true, ite_false, eq_self] at *)) <;> omega), trivial⟩ rfl
        exact hi8 _ _ _ ⟨Fs2, (khi4_0), (by first | assumption | (((try simp only [vp_in_iff, Int32.lt_iff_toInt_lt, Int32.le_iff_toInt_le, ← Int32.toInt_inj, Int32.reduceToInt, n_1, n_2, n_8, Int32.toNatClampNeg, Int64.lt_iff_toInt_lt, Int64.le_iff_toInt_le, ← Int64.toInt_inj, Int64.reduceToInt, Int32.toInt_toInt64, lg_cmp_ge, lg_cmp_le, lg_cmp_gt, lg_cmp_lt, lg_cmp_eq, Bool.false_eq_true, Bool.true_eq_false, reduceCtorEq, false_iff, true_iff, iff_true, iff_false, and_true, true_and, and_false, false_and, reduceIte, ite_true, ite_false, eq_self] at *)) <;> omega)), (by ((try simp only [vp_in_iff, Int32.lt_iff_toInt_lt, Int32.le_iff_toInt_le, ← Int32.toInt_inj, Int32.reduceToInt, n_1, n_2, n_8, Int32.toNatClampNeg, Int64.lt_iff_toInt_lt, Int64.le_iff_toInt_le, ← Int64.toInt_inj, Int64.reduceToInt, Int32.toInt_toInt64, lg_cmp_ge, lg_cmp_le, lg_cmp_gt, lg_cmp_lt, lg_cmp_eq, Bool.false_eq_true, Bool.true_eq_false, reduceCtorEq, false_iff, true_iff, iff_true, iff_false, and_true, true_and, and_false, false_and, reduceIte, ite_true, ite_false, eq_self] at *)) <;> omega), (by first | assumption | (((try simp only [vp_in_iff, Int32.lt_iff_toInt_lt, Int32.le_iff_toInt_le, ← Int32.toInt_inj, Int32.reduceToInt, n_1, n_2, n_8, Int32.toNatClampNeg, Int64.lt_iff_toInt_lt, Int64.le_iff_toInt_le, ← Int64.toInt_inj, Int64.reduceToInt, Int32.toInt_toInt64, lg_cmp_ge, lg_cmp_le, lg_cmp_gt, lg_cmp_lt, lg_cmp_eq, Bool.false_eq_true, Bool.true_eq_false, reduceCtorEq, false_iff, true_iff, iff_true, iff_false, and_true, true_and, and_false, false_and, reduceIte, ite_true, ite_false, eq_self] at *)) <;> omega)), (by first | assumption | (((try simp only [vp_in_iff, Int32.lt_iff_toInt_lt, Int32.le_iff_toInt_le, ← Int32.toInt_inj, Int32.reduceToInt, n_1, n_2, n_8, Int32.toNatClampNeg, Int64.lt_iff_toInt_lt, Int64.le_iff_toInt_le, ← Int64.toInt_inj, Int64.reduceToInt, Int32.toInt_toInt64, lg_cmp_ge, lg_cmp_le, lg_cmp_gt, lg_cmp_lt, lg_cmp_eq, Bool.false_eq_true, Bool.true_eq_false, reduceCtorEq, false_iff, true_iff, iff_true, iff_false, and_true, true_and, and_false, false_and, reduceIte, ite_true, ite_false, eq_self] at *)) <;> omega)), trivial⟩ rfl
  exact hi4 _ _ _ ⟨Fs1, (nxk_gi_si hs1 (by decide)), (by ((try simp only [vp_in_iff, Int32.lt_iff_toInt_lt, Int32.le_iff_toInt_le, ← Int32.toInt_inj, Int32.reduceToInt, n_1, n_2, n_8, Int32.toNatClampNeg, Int64.lt_iff_toInt_lt, Int64.le_iff_toInt_le, ← Int64.toInt_inj, Int64.reduceToInt, Int32.toInt_toInt64, lg_cmp_ge, lg_cmp_le, lg_cmp_gt, lg_cmp_lt, lg_cmp_eq, Bool.false_eq_true, Bool.true_eq_false, reduceCtorEq, false_iff, true_iff, iff_true, iff_false, and_true, true_and, and_false, false_and, reduceIte, ite_true, ite_false, eq_self] at *)) <;> omega), (by rw [nxe_gi_si hs1]; first | assumption | (((try simp only [vp_in_iff, Int32.lt_iff_toInt_lt, Int32.le_iff_toInt_le, ← Int32.toInt_inj, Int32.reduceToInt, n_1, n_2, n_8, Int32.toNatClampNeg, Int64.lt_iff_toInt_lt, Int64.le_iff_toInt_le, ← Int64.toInt_inj, Int64.reduceToInt, Int32.toInt_toInt64, lg_cmp_ge, lg_cmp_le, lg_cmp_gt, lg_cmp_lt, lg_cmp_eq, Bool.false_eq_true, Bool.true_eq_false, reduceCtorEq, false_iff, true_iff, iff_true, iff_false, and_true, true_and, and_false, false_and, reduceIte, ite_true, ite_false, eq_self] at *)) <;> omega)), (by rw [nxe_gi_si hs1]; first | assumption | (((try simp only [vp_in_iff, Int32.lt_iff_toInt_lt, Int32.le_iff_toInt_le, ← Int32.toInt_inj, Int32.reduceToInt, n_1, n_2, n_8, Int32.toNatClampNeg, Int64.lt_iff_toInt_lt, Int64.le_iff_toInt_le, ← Int64.toInt_inj, Int64.reduceToInt, Int32.toInt_toInt64, lg_cmp_ge, lg_cmp_le, lg_cmp_gt, lg_cmp_lt, lg_cmp_eq, Bool.false_eq_true, Bool.true_eq_false, reduceCtorEq, false_iff, true_iff, iff_true, iff_false, and_true, true_and, and_false, false_and, reduceIte, ite_true, ite_false, eq_self] at *)) <;> omega)), trivial⟩ rfl
set_option maxHeartbeats 4000000 in
theorem sp_X12_factor (G : kG9) {d : Nat} (hd : 0 ≤ d) (σ : St) (a0 : Int32) (a1 : Int32) : Ct G M_X12_factor d [.ref 84, .int a0, .int a1] σ (fun r σ' => ∃ x : Int64, r = some (.long x) ∧ σ = σ' ∧ True) := by
  refine wa_start (by decide) rfl (Nat.le_of_ble_eq_true rfl) (lv := [(0, .ref 84), (1, .int a0), (2, .int a1)]) rfl o_X12_factor_0 rfl ?_
  have ua0 := Int32.toInt_lt a0
  have wa0 := Int32.le_toInt a0
  have ua1 := Int32.toInt_lt a1
  have wa1 := Int32.le_toInt a1
  refine wa_iload_n (i := 1) rfl rfl ?_
  refine wa_aload_n (i := 0) rfl rfl ?_
  refine wa_geti ck_12 fl_12_1067 ly_84 ?_
  refine wa_icmp_ge o_X12_factor_19 (by decide) (fun h1 => ?_) (fun h1 => ?_)
  · refine wa_iload_n (i := 1) rfl rfl ?_
    refine wa_aload_n (i := 0) rfl rfl ?_
    refine wa_geti ck_12 fl_12_1067 ly_84 ?_
    refine wa_isub ?_
    refine wa_top (fun v2 hv2 => ?_)
    have tv2 := i_subT hv2
    clear hv2
    refine wa_istore_nD (lv' := [(3, .int v2), (0, .ref 84), (1, .int a0), (2, .int a1)]) (i := 3) rfl (by decide) rfl ?_
    refine wa_iload_n (i := 3) rfl rfl ?_
    refine wa_iconst (v := 2) (by decide) ?_
    refine wa_idiv (by ((try simp only [vp_in_iff, Int32.lt_iff_toInt_lt, Int32.le_iff_toInt_le, ← Int32.toInt_inj, Int32.reduceToInt, n_1, n_2, n_8, Int32.toNatClampNeg, Int64.lt_iff_toInt_lt, Int64.le_iff_toInt_le, ← Int64.toInt_inj, Int64.reduceToInt, Int32.toInt_toInt64, lg_cmp_ge, lg_cmp_le, lg_cmp_gt, lg_cmp_lt, lg_cmp_eq, Bool.false_eq_true, Bool.true_eq_false, reduceCtorEq, false_iff, true_iff, iff_true, iff_false, and_true, true_and, and_false, false_and, reduceIte, ite_true, ite_false, eq_self] at *)) <;> omega) ?_
    refine wa_top (fun v3 hv3 => ?_)
    have tv3 := i_divU hv3
    clear hv3
    refine wa_iload_n (i := 2) rfl rfl ?_
    refine wa_icmp_ne o_X12_factor_49 (by decide) (fun h4 => ?_) (fun h4 => ?_)
    · refine wa_lconst (v := 0) (by decide) ?_
      refine wa_lreturn rfl rfl ?_
      exact ⟨_, rfl, rfl, trivial⟩
    · refine wa_iload_n (i := 3) rfl rfl ?_
      refine wa_iconst (v := 2) (by decide) ?_
      refine wa_irem (by ((try simp only [vp_in_iff, Int32.lt_iff_toInt_lt, Int32.le_iff_toInt_le, ← Int32.toInt_inj, Int32.reduceToInt, n_1, n_2, n_8, Int32.toNatClampNeg, Int64.lt_iff_toInt_lt, Int64.le_iff_toInt_le, ← Int64.toInt_inj, Int64.reduceToInt, Int32.toInt_toInt64, lg_cmp_ge, lg_cmp_le, lg_cmp_gt, lg_cmp_lt, lg_cmp_eq, Bool.false_eq_true, Bool.true_eq_false, reduceCtorEq, false_iff, true_iff, iff_true, iff_false, and_true, true_and, and_false, false_and, reduceIte, ite_true, ite_false, eq_self] at *)) <;> omega) ?_
      refine wa_top (fun v5 hv5 => ?_)
      have tv5 := i_remU hv5
      clear hv5
      refine wa_if_ne o_X12_factor_43 (by decide) (fun h6 => ?_) (fun h6 => ?_)
      · refine wa_ldc2 (v := (-1)) (allW_in (kT_12 _ (List.mem_of_getElem? (i := 97) rfl)) rfl) ?_
        refine wa_goto o_X12_factor_50 (by decide) ?_
        refine wa_lreturn rfl rfl ?_
        exact ⟨_, rfl, rfl, trivial⟩
      · refine wa_lconst (v := 1) (by decide) ?_
        refine wa_goto o_X12_factor_50 (by decide) ?_
        refine wa_lreturn rfl rfl ?_
        exact ⟨_, rfl, rfl, trivial⟩
  · have mh1 := nle_mx h1
    refine wa_aload_n (i := 0) rfl rfl ?_
    refine wa_getr ck_12 fl_12_394 ly_84 rf_84_158 ?_
    refine wa_iconst (v := 4) (by decide) ?_
    refine wa_iload_n (i := 1) rfl rfl ?_
    refine wa_imul ?_
    refine wa_top (fun v7 hv7 => ?_)
    have tv7 := i_mulT hv7
    clear hv7
    refine wa_iload_n (i := 2) rfl rfl ?_
    refine wa_iadd ?_
    refine wa_top (fun v8 hv8 => ?_)
    have tv8 := i_addT hv8
    clear hv8
    refine wa_lald ly_105 (by ((try simp only [vp_in_iff, Int32.lt_iff_toInt_lt, Int32.le_iff_toInt_le, ← Int32.toInt_inj, Int32.reduceToInt, n_1, n_2, n_8, Int32.toNatClampNeg, Int64.lt_iff_toInt_lt, Int64.le_iff_toInt_le, ← Int64.toInt_inj, Int64.reduceToInt, Int32.toInt_toInt64, lg_cmp_ge, lg_cmp_le, lg_cmp_gt, lg_cmp_lt, lg_cmp_eq, Bool.false_eq_true, Bool.true_eq_false, reduceCtorEq, false_iff, true_iff, iff_true, iff_false, and_true, true_and, and_false, false_and, reduceIte, ite_true, ite_false, eq_self] at *)) <;> omega) ?_
    refine wa_lreturn rfl rfl ?_
    exact ⟨_, rfl, rfl, trivial⟩
set_option maxHeartbeats 4000000 in
theorem sp_X12_two (G : kG9) {d : Nat} (hd : 0 ≤ d) (σ : St) (a0 : Int64) (a1 : Int64) (a2 : Int64) (a3 : Int64) : Ct G M_X12_two d [.long a0, .long a1, .long a2, .long a3] σ (fun r σ' => ∃ x : Int64, r = some (.long x) ∧ σ = σ' ∧ True) := by
  refine wa_start (by decide) rfl (Nat.le_of_ble_eq_true rfl) (lv := [(0, .long a0), (2, .long a1), (4, .long a2), (6, .long a3)]) rfl o_X12_two_0 rfl ?_
  refine wa_lload_n (i := 0) rfl rfl ?_
  refine wa_lload rfl ?_
  refine wa_lmul ?_
  refine wa_topl (fun v1 hv1 => ?_)
  clear hv1
  refine wa_lload_n (i := 2) rfl rfl ?_
  refine wa_lload rfl ?_
  refine wa_lmul ?_
  refine wa_topl (fun v2 hv2 => ?_)
  clear hv2
  refine wa_lsub ?_
  refine wa_topl (fun v3 hv3 => ?_)
  clear hv3
  refine wa_lreturn rfl rfl ?_
  exact ⟨_, rfl, rfl, trivial⟩
set_option maxHeartbeats 4000000 in
theorem sp_X12_three (G : kG9) {d : Nat} (hd : 1 ≤ d) (σ : St) (a0 : Int32) (a1 : Int32) (a2 : Int32) (a3 : Int32) (a4 : Int32) (a5 : Int32) : Ct G M_X12_three d [.ref 84, .int a0, .int a1, .int a2, .int a3, .int a4, .int a5] σ (fun r σ' => ∃ x : Int64, r = some (.long x) ∧ σ = σ' ∧ True) := by
  refine wa_start (by decide) rfl (Nat.le_of_ble_eq_true rfl) (lv := [(0, .ref 84), (1, .int a0), (2, .int a1), (3, .int a2), (4, .int a3), (5, .int a4), (6, .int a5)]) rfl o_X12_three_0 rfl ?_
  have ua0 := Int32.toInt_lt a0
  have wa0 := Int32.le_toInt a0
  have ua1 := Int32.toInt_lt a1
  have wa1 := Int32.le_toInt a1
  have ua2 := Int32.toInt_lt a2
  have wa2 := Int32.le_toInt a2
  have ua3 := Int32.toInt_lt a3
  have wa3 := Int32.le_toInt a3
  have ua4 := Int32.toInt_lt a4
  have wa4 := Int32.le_toInt a4
  have ua5 := Int32.toInt_lt a5
  have wa5 := Int32.le_toInt a5
  refine wa_aload_n (i := 0) rfl rfl ?_
  refine wa_getr ck_12 fl_12_403 ly_84 rf_84_163 ?_
  refine wa_iconst (v := 4) (by decide) ?_
  refine wa_iload_n (i := 1) rfl rfl ?_
  refine wa_imul ?_
  refine wa_top (fun v1 hv1 => ?_)
  have tv1 := i_mulT hv1
  clear hv1
  refine wa_iload rfl ?_
  refine wa_iadd ?_
  refine wa_top (fun v2 hv2 => ?_)
  have tv2 := i_addT hv2
  clear hv2
  refine wa_lald ly_102 (by ((try simp only [vp_in_iff, Int32.lt_iff_toInt_lt, Int32.le_iff_toInt_le, ← Int32.toInt_inj, Int32.reduceToInt, n_1, n_2, n_8, Int32.toNatClampNeg, Int64.lt_iff_toInt_lt, Int64.le_iff_toInt_le, ← Int64.toInt_inj, Int64.reduceToInt, Int32.toInt_toInt64, lg_cmp_ge, lg_cmp_le, lg_cmp_gt, lg_cmp_lt, lg_cmp_eq, Bool.false_eq_true, Bool.true_eq_false, reduceCtorEq, false_iff, true_iff, iff_true, iff_false, and_true, true_and, and_false, false_and, reduceIte, ite_true, ite_false, eq_self] at *)) <;> omega) ?_
  refine wa_aload_n (i := 0) rfl rfl ?_
  refine wa_getr ck_12 fl_12_403 ly_84 rf_84_163 ?_
  refine wa_iconst (v := 4) (by decide) ?_
  refine wa_iload_n (i := 2) rfl rfl ?_
  refine wa_imul ?_
  refine wa_top (fun v3 hv3 => ?_)
  have tv3 := i_mulT hv3
  clear hv3
  refine wa_iload rfl ?_
  refine wa_iadd ?_
  refine wa_top (fun v4 hv4 => ?_)
  have tv4 := i_addT hv4
  clear hv4
  refine wa_lald ly_102 (by ((try simp only [vp_in_iff, Int32.lt_iff_toInt_lt, Int32.le_iff_toInt_le, ← Int32.toInt_inj, Int32.reduceToInt, n_1, n_2, n_8, Int32.toNatClampNeg, Int64.lt_iff_toInt_lt, Int64.le_iff_toInt_le, ← Int64.toInt_inj, Int64.reduceToInt, Int32.toInt_toInt64, lg_cmp_ge, lg_cmp_le, lg_cmp_gt, lg_cmp_lt, lg_cmp_eq, Bool.false_eq_true, Bool.true_eq_false, reduceCtorEq, false_iff, true_iff, iff_true, iff_false, and_true, true_and, and_false, false_and, reduceIte, ite_true, ite_false, eq_self] at *)) <;> omega) ?_
  refine wa_aload_n (i := 0) rfl rfl ?_
  refine wa_getr ck_12 fl_12_403 ly_84 rf_84_163 ?_
  refine wa_iconst (v := 4) (by decide) ?_
  refine wa_iload_n (i := 2) rfl rfl ?_
  refine wa_imul ?_
  refine wa_top (fun v5 hv5 => ?_)
  have tv5 := i_mulT hv5
  clear hv5
  refine wa_iload rfl ?_
  refine wa_iadd ?_
  refine wa_top (fun v6 hv6 => ?_)
  have tv6 := i_addT hv6
  clear hv6
  refine wa_lald ly_102 (by ((try simp only [vp_in_iff, Int32.lt_iff_toInt_lt, Int32.le_iff_toInt_le, ← Int32.toInt_inj, Int32.reduceToInt, n_1, n_2, n_8, Int32.toNatClampNeg, Int64.lt_iff_toInt_lt, Int64.le_iff_toInt_le, ← Int64.toInt_inj, Int64.reduceToInt, Int32.toInt_toInt64, lg_cmp_ge, lg_cmp_le, lg_cmp_gt, lg_cmp_lt, lg_cmp_eq, Bool.false_eq_true, Bool.true_eq_false, reduceCtorEq, false_iff, true_iff, iff_true, iff_false, and_true, true_and, and_false, false_and, reduceIte, ite_true, ite_false, eq_self] at *)) <;> omega) ?_
  refine wa_aload_n (i := 0) rfl rfl ?_
  refine wa_getr ck_12 fl_12_403 ly_84 rf_84_163 ?_
  refine wa_iconst (v := 4) (by decide) ?_
  refine wa_iload_n (i := 3) rfl rfl ?_
  refine wa_imul ?_
  refine wa_top (fun v7 hv7 => ?_)
  have tv7 := i_mulT hv7
  clear hv7
  refine wa_iload rfl ?_
  refine wa_iadd ?_
  refine wa_top (fun v8 hv8 => ?_)
  have tv8 := i_addT hv8
  clear hv8
  refine wa_lald ly_102 (by ((try simp only [vp_in_iff, Int32.lt_iff_toInt_lt, Int32.le_iff_toInt_le, ← Int32.toInt_inj, Int32.reduceToInt, n_1, n_2, n_8, Int32.toNatClampNeg, Int64.lt_iff_toInt_lt, Int64.le_iff_toInt_le, ← Int64.toInt_inj, Int64.reduceToInt, Int32.toInt_toInt64, lg_cmp_ge, lg_cmp_le, lg_cmp_gt, lg_cmp_lt, lg_cmp_eq, Bool.false_eq_true, Bool.true_eq_false, reduceCtorEq, false_iff, true_iff, iff_true, iff_false, and_true, true_and, and_false, false_and, reduceIte, ite_true, ite_false, eq_self] at *)) <;> omega) ?_
  refine wa_aload_n (i := 0) rfl rfl ?_
  refine wa_getr ck_12 fl_12_403 ly_84 rf_84_163 ?_
  refine wa_iconst (v := 4) (by decide) ?_
  refine wa_iload_n (i := 3) rfl rfl ?_
  refine wa_imul ?_
  refine wa_top (fun v9 hv9 => ?_)
  have tv9 := i_mulT hv9
  clear hv9
  refine wa_iload rfl ?_
  refine wa_iadd ?_
  refine wa_top (fun v10 hv10 => ?_)
  have tv10 := i_addT hv10
  clear hv10
  refine wa_lald ly_102 (by ((try simp only [vp_in_iff, Int32.lt_iff_toInt_lt, Int32.le_iff_toInt_le, ← Int32.toInt_inj, Int32.reduceToInt, n_1, n_2, n_8, Int32.toNatClampNeg, Int64.lt_iff_toInt_lt, Int64.le_iff_toInt_le, ← Int64.toInt_inj, Int64.reduceToInt, Int32.toInt_toInt64, lg_cmp_ge, lg_cmp_le, lg_cmp_gt, lg_cmp_lt, lg_cmp_eq, Bool.false_eq_true, Bool.true_eq_false, reduceCtorEq, false_iff, true_iff, iff_true, iff_false, and_true, true_and, and_false, false_and, reduceIte, ite_true, ite_false, eq_self] at *)) <;> omega) ?_
  refine wa_Sl (d9 := d - 1) [.long _, .long _, .long _, .long _] [.long (gl σ 102 (v2).toNatClampNeg)] (sp_X12_two G (d := d - 1) (by omega) σ _ _ _ _) (rfl) rfl rfl (zr (by omega)) mk_X12_two ml_12_1079 (Nat.le_of_ble_eq_true rfl) (fun x12 s11 hs11 => ?_)
  obtain ⟨zs11, -⟩ := pL hs11
  subst zs11
  refine wa_lmul ?_
  refine wa_topl (fun v13 hv13 => ?_)
  clear hv13
  refine wa_lstoreD (lv' := [(7, .long v13), (0, .ref 84), (1, .int a0), (2, .int a1), (3, .int a2), (4, .int a3), (5, .int a4), (6, .int a5)]) (by decide) rfl ?_
  refine wa_aload_n (i := 0) rfl rfl ?_
  refine wa_getr ck_12 fl_12_403 ly_84 rf_84_163 ?_
  refine wa_iconst (v := 4) (by decide) ?_
  refine wa_iload_n (i := 1) rfl rfl ?_
  refine wa_imul ?_
  refine wa_top (fun v14 hv14 => ?_)
  have tv14 := i_mulT hv14
  clear hv14
  refine wa_iload rfl ?_
  refine wa_iadd ?_
  refine wa_top (fun v15 hv15 => ?_)
  have tv15 := i_addT hv15
  clear hv15
  refine wa_lald ly_102 (by ((try simp only [vp_in_iff, Int32.lt_iff_toInt_lt, Int32.le_iff_toInt_le, ← Int32.toInt_inj, Int32.reduceToInt, n_1, n_2, n_8, Int32.toNatClampNeg, Int64.lt_iff_toInt_lt, Int64.le_iff_toInt_le, ← Int64.toInt_inj, Int64.reduceToInt, Int32.toInt_toInt64, lg_cmp_ge, lg_cmp_le, lg_cmp_gt, lg_cmp_lt, lg_cmp_eq, Bool.false_eq_true, Bool.true_eq_false, reduceCtorEq, false_iff, true_iff, iff_true, iff_false, and_true, true_and, and_false, false_and, reduceIte, ite_true, ite_false, eq_self] at *)) <;> omega) ?_
  refine wa_aload_n (i := 0) rfl rfl ?_
  refine wa_getr ck_12 fl_12_403 ly_84 rf_84_163 ?_
  refine wa_iconst (v := 4) (by decide) ?_
  refine wa_iload_n (i := 2) rfl rfl ?_
  refine wa_imul ?_
  refine wa_top (fun v16 hv16 => ?_)
  have tv16 := i_mulT hv16
  clear hv16
  refine wa_iload rfl ?_
  refine wa_iadd ?_
  refine wa_top (fun v17 hv17 => ?_)
  have tv17 := i_addT hv17
  clear hv17
  refine wa_lald ly_102 (by ((try simp only [vp_in_iff, Int32.lt_iff_toInt_lt, Int32.le_iff_toInt_le, ← Int32.toInt_inj, Int32.reduceToInt, n_1, n_2, n_8, Int32.toNatClampNeg, Int64.lt_iff_toInt_lt, Int64.le_iff_toInt_le, ← Int64.toInt_inj, Int64.reduceToInt, Int32.toInt_toInt64, lg_cmp_ge, lg_cmp_le, lg_cmp_gt, lg_cmp_lt, lg_cmp_eq, Bool.false_eq_true, Bool.true_eq_false, reduceCtorEq, false_iff, true_iff, iff_true, iff_false, and_true, true_and, and_false, false_and, reduceIte, ite_true, ite_false, eq_self] at *)) <;> omega) ?_
  refine wa_aload_n (i := 0) rfl rfl ?_
  refine wa_getr ck_12 fl_12_403 ly_84 rf_84_163 ?_
  refine wa_iconst (v := 4) (by decide) ?_
  refine wa_iload_n (i := 2) rfl rfl ?_
  refine wa_imul ?_
  refine wa_top (fun v18 hv18 => ?_)
  have tv18 := i_mulT hv18
  clear hv18
  refine wa_iload rfl ?_
  refine wa_iadd ?_
  refine wa_top (fun v19 hv19 => ?_)
  have tv19 := i_addT hv19
  clear hv19
  refine wa_lald ly_102 (by ((try simp only [vp_in_iff, Int32.lt_iff_toInt_lt, Int32.le_iff_toInt_le, ← Int32.toInt_inj, Int32.reduceToInt, n_1, n_2, n_8, Int32.toNatClampNeg, Int64.lt_iff_toInt_lt, Int64.le_iff_toInt_le, ← Int64.toInt_inj, Int64.reduceToInt, Int32.toInt_toInt64, lg_cmp_ge, lg_cmp_le, lg_cmp_gt, lg_cmp_lt, lg_cmp_eq, Bool.false_eq_true, Bool.true_eq_false, reduceCtorEq, false_iff, true_iff, iff_true, iff_false, and_true, true_and, and_false, false_and, reduceIte, ite_true, ite_false, eq_self] at *)) <;> omega) ?_
  refine wa_aload_n (i := 0) rfl rfl ?_
  refine wa_getr ck_12 fl_12_403 ly_84 rf_84_163 ?_
  refine wa_iconst (v := 4) (by decide) ?_
  refine wa_iload_n (i := 3) rfl rfl ?_
  refine wa_imul ?_
  refine wa_top (fun v20 hv20 => ?_)
  have tv20 := i_mulT hv20
  clear hv20
  refine wa_iload rfl ?_
  refine wa_iadd ?_
  refine wa_top (fun v21 hv21 => ?_)
  have tv21 := i_addT hv21
  clear hv21
  refine wa_lald ly_102 (by ((try simp only [vp_in_iff, Int32.lt_iff_toInt_lt, Int32.le_iff_toInt_le, ← Int32.toInt_inj, Int32.reduceToInt, n_1, n_2, n_8, Int32.toNatClampNeg, Int64.lt_iff_toInt_lt, Int64.le_iff_toInt_le, ← Int64.toInt_inj, Int64.reduceToInt, Int32.toInt_toInt64, lg_cmp_ge, lg_cmp_le, lg_cmp_gt, lg_cmp_lt, lg_cmp_eq, Bool.false_eq_true, Bool.true_eq_false, reduceCtorEq, false_iff, true_iff, iff_true, iff_false, and_true, true_and, and_false, false_and, reduceIte, ite_true, ite_false, eq_self] at *)) <;> omega) ?_
  refine wa_aload_n (i := 0) rfl rfl ?_
  refine wa_getr ck_12 fl_12_403 ly_84 rf_84_163 ?_
  refine wa_iconst (v := 4) (by decide) ?_
  refine wa_iload_n (i := 3) rfl rfl ?_
  refine wa_imul ?_
  refine wa_top (fun v22 hv22 => ?_)
  have tv22 := i_mulT hv22
  clear hv22
  refine wa_iload rfl ?_
  refine wa_iadd ?_
  refine wa_top (fun v23 hv23 => ?_)
  have tv23 := i_addT hv23
  clear hv23
  refine wa_lald ly_102 (by ((try simp only [vp_in_iff, Int32.lt_iff_toInt_lt, Int32.le_iff_toInt_le, ← Int32.toInt_inj, Int32.reduceToInt, n_1, n_2, n_8, Int32.toNatClampNeg, Int64.lt_iff_toInt_lt, Int64.le_iff_toInt_le, ← Int64.toInt_inj, Int64.reduceToInt, Int32.toInt_toInt64, lg_cmp_ge, lg_cmp_le, lg_cmp_gt, lg_cmp_lt, lg_cmp_eq, Bool.false_eq_true, Bool.true_eq_false, reduceCtorEq, false_iff, true_iff, iff_true, iff_false, and_true, true_and, and_false, false_and, reduceIte, ite_true, ite_false, eq_self] at *)) <;> omega) ?_
  refine wa_Sl (d9 := d - 1) [.long _, .long _, .long _, .long _] [.long (gl σ 102 (v15).toNatClampNeg)] (sp_X12_two G (d := d - 1) (by omega) σ _ _ _ _) (rfl) rfl rfl (zr (by omega)) mk_X12_two ml_12_1079 (Nat.le_of_ble_eq_true rfl) (fun x25 s24 hs24 => ?_)
  obtain ⟨zs24, -⟩ := pL hs24
  subst zs24
  refine wa_lmul ?_
  refine wa_topl (fun v26 hv26 => ?_)
  clear hv26
  refine wa_lstoreD (lv' := [(9, .long v26), (7, .long v13), (0, .ref 84), (1, .int a0), (2, .int a1), (3, .int a2), (4, .int a3), (5, .int a4), (6, .int a5)]) (by decide) rfl ?_
  refine wa_aload_n (i := 0) rfl rfl ?_
  refine wa_getr ck_12 fl_12_403 ly_84 rf_84_163 ?_
  refine wa_iconst (v := 4) (by decide) ?_
  refine wa_iload_n (i := 1) rfl rfl ?_
  refine wa_imul ?_
  refine wa_top (fun v27 hv27 => ?_)
  have tv27 := i_mulT hv27
  clear hv27
  refine wa_iload rfl ?_
  refine wa_iadd ?_
  refine wa_top (fun v28 hv28 => ?_)
  have tv28 := i_addT hv28
  clear hv28
  refine wa_lald ly_102 (by ((try simp only [vp_in_iff, Int32.lt_iff_toInt_lt, Int32.le_iff_toInt_le, ← Int32.toInt_inj, Int32.reduceToInt, n_1, n_2, n_8, Int32.toNatClampNeg, Int64.lt_iff_toInt_lt, Int64.le_iff_toInt_le, ← Int64.toInt_inj, Int64.reduceToInt, Int32.toInt_toInt64, lg_cmp_ge, lg_cmp_le, lg_cmp_gt, lg_cmp_lt, lg_cmp_eq, Bool.false_eq_true, Bool.true_eq_false, reduceCtorEq, false_iff, true_iff, iff_true, iff_false, and_true, true_and, and_false, false_and, reduceIte, ite_true, ite_false, eq_self] at *)) <;> omega) ?_
  refine wa_aload_n (i := 0) rfl rfl ?_
  refine wa_getr ck_12 fl_12_403 ly_84 rf_84_163 ?_
  refine wa_iconst (v := 4) (by decide) ?_
  refine wa_iload_n (i := 2) rfl rfl ?_
  refine wa_imul ?_
  refine wa_top (fun v29 hv29 => ?_)
  have tv29 := i_mulT hv29
  clear hv29
  refine wa_iload rfl ?_
  refine wa_iadd ?_
  refine wa_top (fun v30 hv30 => ?_)
  have tv30 := i_addT hv30
  clear hv30
  refine wa_lald ly_102 (by ((try simp only [vp_in_iff, Int32.lt_iff_toInt_lt, Int32.le_iff_toInt_le, ← Int32.toInt_inj, Int32.reduceToInt, n_1, n_2, n_8, Int32.toNatClampNeg, Int64.lt_iff_toInt_lt, Int64.le_iff_toInt_le, ← Int64.toInt_inj, Int64.reduceToInt, Int32.toInt_toInt64, lg_cmp_ge, lg_cmp_le, lg_cmp_gt, lg_cmp_lt, lg_cmp_eq, Bool.false_eq_true, Bool.true_eq_false, reduceCtorEq, false_iff, true_iff, iff_true, iff_false, and_true, true_and, and_false, false_and, reduceIte, ite_true, ite_false, eq_self] at *)) <;> omega) ?_
  refine wa_aload_n (i := 0) rfl rfl ?_
  refine wa_getr ck_12 fl_12_403 ly_84 rf_84_163 ?_
  refine wa_iconst (v := 4) (by decide) ?_
  refine wa_iload_n (i := 2) rfl rfl ?_
  refine wa_imul ?_
  refine wa_top (fun v31 hv31 => ?_)
  have tv31 := i_mulT hv31
  clear hv31
  refine wa_iload rfl ?_
  refine wa_iadd ?_
  refine wa_top (fun v32 hv32 => ?_)
  have tv32 := i_addT hv32
  clear hv32
  refine wa_lald ly_102 (by ((try simp only [vp_in_iff, Int32.lt_iff_toInt_lt, Int32.le_iff_toInt_le, ← Int32.toInt_inj, Int32.reduceToInt, n_1, n_2, n_8, Int32.toNatClampNeg, Int64.lt_iff_toInt_lt, Int64.le_iff_toInt_le, ← Int64.toInt_inj, Int64.reduceToInt, Int32.toInt_toInt64, lg_cmp_ge, lg_cmp_le, lg_cmp_gt, lg_cmp_lt, lg_cmp_eq, Bool.false_eq_true, Bool.true_eq_false, reduceCtorEq, false_iff, true_iff, iff_true, iff_false, and_true, true_and, and_false, false_and, reduceIte, ite_true, ite_false, eq_self] at *)) <;> omega) ?_
  refine wa_aload_n (i := 0) rfl rfl ?_
  refine wa_getr ck_12 fl_12_403 ly_84 rf_84_163 ?_
  refine wa_iconst (v := 4) (by decide) ?_
  refine wa_iload_n (i := 3) rfl rfl ?_
  refine wa_imul ?_
  refine wa_top (fun v33 hv33 => ?_)
  have tv33 := i_mulT hv33
  clear hv33
  refine wa_iload rfl ?_
  refine wa_iadd ?_
  refine wa_top (fun v34 hv34 => ?_)
  have tv34 := i_addT hv34
  clear hv34
  refine wa_lald ly_102 (by ((try simp only [vp_in_iff, Int32.lt_iff_toInt_lt, Int32.le_iff_toInt_le, ← Int32.toInt_inj, Int32.reduceToInt, n_1, n_2, n_8, Int32.toNatClampNeg, Int64.lt_iff_toInt_lt, Int64.le_iff_toInt_le, ← Int64.toInt_inj, Int64.reduceToInt, Int32.toInt_toInt64, lg_cmp_ge, lg_cmp_le, lg_cmp_gt, lg_cmp_lt, lg_cmp_eq, Bool.false_eq_true, Bool.true_eq_false, reduceCtorEq, false_iff, true_iff, iff_true, iff_false, and_true, true_and, and_false, false_and, reduceIte, ite_true, ite_false, eq_self] at *)) <;> omega) ?_
  refine wa_aload_n (i := 0) rfl rfl ?_
  refine wa_getr ck_12 fl_12_403 ly_84 rf_84_163 ?_
  refine wa_iconst (v := 4) (by decide) ?_
  refine wa_iload_n (i := 3) rfl rfl ?_
  refine wa_imul ?_
  refine wa_top (fun v35 hv35 => ?_)
  have tv35 := i_mulT hv35
  clear hv35
  refine wa_iload rfl ?_
  refine wa_iadd ?_
  refine wa_top (fun v36 hv36 => ?_)
  have tv36 := i_addT hv36
  clear hv36
  refine wa_lald ly_102 (by ((try simp only [vp_in_iff, Int32.lt_iff_toInt_lt, Int32.le_iff_toInt_le, ← Int32.toInt_inj, Int32.reduceToInt, n_1, n_2, n_8, Int32.toNatClampNeg, Int64.lt_iff_toInt_lt, Int64.le_iff_toInt_le, ← Int64.toInt_inj, Int64.reduceToInt, Int32.toInt_toInt64, lg_cmp_ge, lg_cmp_le, lg_cmp_gt, lg_cmp_lt, lg_cmp_eq, Bool.false_eq_true, Bool.true_eq_false, reduceCtorEq, false_iff, true_iff, iff_true, iff_false, and_true, true_and, and_false, false_and, reduceIte, ite_true, ite_false, eq_self] at *)) <;> omega) ?_
  refine wa_Sl (d9 := d - 1) [.long _, .long _, .long _, .long _] [.long (gl σ 102 (v28).toNatClampNeg)] (sp_X12_two G (d := d - 1) (by omega) σ _ _ _ _) (rfl) rfl rfl (zr (by omega)) mk_X12_two ml_12_1079 (Nat.le_of_ble_eq_true rfl) (fun x38 s37 hs37 => ?_)
  obtain ⟨zs37, -⟩ := pL hs37
  subst zs37
  refine wa_lmul ?_
  refine wa_topl (fun v39 hv39 => ?_)
  clear hv39
  refine wa_lstoreD (lv' := [(11, .long v39), (9, .long v26), (7, .long v13), (0, .ref 84), (1, .int a0), (2, .int a1), (3, .int a2), (4, .int a3), (5, .int a4), (6, .int a5)]) (by decide) rfl ?_
  refine wa_lload rfl ?_
  refine wa_lload rfl ?_
  refine wa_lsub ?_
  refine wa_topl (fun v40 hv40 => ?_)
  clear hv40
  refine wa_lload rfl ?_
  refine wa_ladd ?_
  refine wa_topl (fun v41 hv41 => ?_)
  clear hv41
  refine wa_lreturn rfl rfl ?_
  exact ⟨_, rfl, rfl, trivial⟩
theorem pad_31g : True := trivial
