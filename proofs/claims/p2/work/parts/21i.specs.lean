set_option maxHeartbeats 4000000 in
theorem sp_X11_useTape (G : kG9) {d : Nat} (hd : 0 ≤ d) (σ : St) : Ct G M_X11_useTape d [.ref 0] σ (fun r σ' => ∃ x : Int32, r = some (.int x) ∧ Fm [0] [] σ σ' ∧ True) := by
  refine wa_start (by decide) rfl (Nat.le_of_ble_eq_true rfl) (lv := [(0, .ref 0)]) rfl o_X11_useTape_0 rfl ?_
  refine wa_aload_n (i := 0) rfl rfl ?_
  refine wa_geti ck_11 fl_11_102 ly_0 ?_
  refine wa_istore_nD (lv' := [(1, .int (gi σ 0 12)), (0, .ref 0)]) (i := 1) rfl (by decide) rfl ?_
  refine wa_aload_n (i := 0) rfl rfl ?_
  refine wa_iconst (v := 0) (by decide) ?_
  refine wa_puti ck_11 fl_11_102 ly_0 (fun s1 hs1 => ?_)
  have Fs1 : Fm [0] [] σ s1 := by rw [hs1]; exact Fm.si (Fm.rf [0] [] σ) rfl
  refine wa_iload_n (i := 1) rfl rfl ?_
  refine wa_ireturn rfl rfl ?_
  exact ⟨_, rfl, Fs1, trivial⟩
set_option maxHeartbeats 4000000 in
theorem sp_X11_faulted (G : kG9) {d : Nat} (hd : 0 ≤ d) (σ : St) : Ct G M_X11_faulted d [.ref 0] σ (fun r σ' => ∃ x : Int32, r = some (.int x) ∧ Fm [0] [] σ σ' ∧ True) := by
  refine wa_start (by decide) rfl (Nat.le_of_ble_eq_true rfl) (lv := [(0, .ref 0)]) rfl o_X11_faulted_0 rfl ?_
  refine wa_aload_n (i := 0) rfl rfl ?_
  refine wa_aload_n (i := 0) rfl rfl ?_
  refine wa_getr ck_11 fl_11_48 ly_0 rf_0_5 ?_
  refine wa_geti ck_8 fl_11_250 ly_30 ?_
  refine wa_puti ck_11 fl_11_253 ly_0 (fun s1 hs1 => ?_)
  have Fs1 : Fm [0] [] σ s1 := by rw [hs1]; exact Fm.si (Fm.rf [0] [] σ) rfl
  refine wa_sipush (v := (-1000)) (by decide) ?_
  refine wa_aload_n (i := 0) rfl rfl ?_
  refine wa_getr ck_11 fl_11_48 ly_0 rf_0_5 ?_
  refine wa_geti ck_8 fl_11_256 ly_30 ?_
  refine wa_rw (nxq_gi_si hs1 (by decide)) ?_
  refine wa_isub ?_
  refine wa_top (fun v2 hv2 => ?_)
  have tv2 := i_subT hv2
  clear hv2
  refine wa_ireturn rfl rfl ?_
  exact ⟨_, rfl, Fs1, trivial⟩
set_option maxHeartbeats 4000000 in
theorem sp_X11_fault (G : kG9) {d : Nat} (hd : 0 ≤ d) (σ : St) : Ct G M_X11_fault d [.ref 0] σ (fun r σ' => ∃ x : Int32, r = some (.int x) ∧ σ = σ' ∧ True) := by
  refine wa_start (by decide) rfl (Nat.le_of_ble_eq_true rfl) (lv := [(0, .ref 0)]) rfl o_X11_fault_0 rfl ?_
  refine wa_aload_n (i := 0) rfl rfl ?_
  refine wa_geti ck_11 fl_11_253 ly_0 ?_
  refine wa_ireturn rfl rfl ?_
  exact ⟨_, rfl, rfl, trivial⟩
set_option maxHeartbeats 4000000 in
theorem sp_X11_on (G : kG9) {d : Nat} (hd : 3 ≤ d) (σ : St) (a0 : Int32) (a1 : Bool) : Ct G M_X11_on d [.ref 0, .int a0, .int (bI a1)] σ (fun r σ' => ∃ x : Int32, r = some (.int x) ∧ Fm [0, 2, 3, 4, 5, 6, 7] [] σ σ' ∧ True) := by
  refine wa_start (by decide) rfl (Nat.le_of_ble_eq_true rfl) (lv := [(0, .ref 0), (1, .int a0), (2, .int (bI a1))]) rfl o_X11_on_0 rfl ?_
  have ua0 := Int32.toInt_lt a0
  have wa0 := Int32.le_toInt a0
  refine wa_aload_n (i := 0) rfl rfl ?_
  refine wa_getr ck_11 fl_11_16 ly_0 rf_0_1 ?_
  refine wa_getz ck_1 fl_11_122 ly_2 ?_
  refine wa_if_eq o_X11_on_13 (by decide) (fun h1 => ?_) (fun h1 => ?_)
  · replace h1 := bI_f (b := (gb σ 2 8)) (rfl) h1
    refine wa_aload_n (i := 0) rfl rfl ?_
    refine wa_getr ck_11 fl_11_23 ly_0 rf_0_2 ?_
    refine wa_iload_n (i := 1) rfl rfl ?_
    refine wa_Vi (d9 := d - 1) [.int _] [] (sp_X2_isClaim G (d := d - 1) (by omega) σ _) (rfl) rfl rfl (zr (by omega)) mk_X2_isClaim ly_7 ml_11_176 (Nat.le_of_ble_eq_true rfl) (fun x3 s2 hs2 => ?_)
    obtain ⟨bx3, ex3, zs2, -⟩ := pB hs2
    subst ex3
    subst zs2
    refine wa_if_ne o_X11_on_27 (by decide) (fun h4 => ?_) (fun h4 => ?_)
    · replace h4 := bI_t (b := bx3) (rfl) h4
      refine wa_aload_n (i := 0) rfl rfl ?_
      refine wa_getr ck_11 fl_11_16 ly_0 rf_0_1 ?_
      refine wa_bipush (v := 9) (by decide) ?_
      refine wa_Vi (d9 := d - 1) [.int _] [] (sp_X1_hasRoom G (d := d - 1) (by omega) σ _) (rfl) rfl rfl (zr (by omega)) mk_X1_hasRoom ly_2 ml_11_239 (Nat.le_of_ble_eq_true rfl) (fun x6 s5 hs5 => ?_)
      obtain ⟨bx6, ex6, zs5, -⟩ := pB hs5
      subst ex6
      subst zs5
      refine wa_if_ne o_X11_on_42 (by decide) (fun h7 => ?_) (fun h7 => ?_)
      · replace h7 := bI_t (b := bx6) (rfl) h7
        refine wa_aload_n (i := 0) rfl rfl ?_
        refine wa_getr ck_11 fl_11_23 ly_0 rf_0_2 ?_
        refine wa_iload_n (i := 1) rfl rfl ?_
        refine wa_iload_n (i := 2) rfl rfl ?_
        refine wa_Vi (d9 := d - 1) [.int _, .int (bI a1)] [] (sp_X2_turn G (d := d - 1) (by omega) σ _ a1) (rfl) rfl rfl (zr (by omega)) mk_X2_turn ly_7 ml_11_180 (Nat.le_of_ble_eq_true rfl) (fun x9 s8 hs8 => ?_)
        obtain ⟨bx9, ex9, fs8, -⟩ := pB hs8
        subst ex9
        have Fs8 : Fm [0, 2, 3, 4, 5, 6, 7] [] σ s8 := Fm.tr (Fm.rf [0, 2, 3, 4, 5, 6, 7] [] σ) (Fm.wd fs8 rfl rfl)
        refine wa_istore_nD (lv' := [(3, .int (bI bx9)), (0, .ref 0), (1, .int a0), (2, .int (bI a1))]) (i := 3) rfl (by decide) rfl ?_
        refine wa_aload_n (i := 0) rfl rfl ?_
        refine wa_getr ck_11 fl_11_16 ly_0 rf_0_1 ?_
        refine wa_iload_n (i := 1) rfl rfl ?_
        refine wa_iload_n (i := 2) rfl rfl ?_
        refine wa_Vv (d9 := d - 1) [.int _, .int (bI a1)] [] (sp_X1_recordOn G (d := d - 1) (by omega) s8 _ a1) (rfl) rfl rfl (zr (by omega)) mk_X1_recordOn ly_2 ml_11_259 (Nat.le_of_ble_eq_true rfl) (fun s10 hs10 => ?_)
        obtain ⟨fs10, -⟩ := hs10
        have Fs10 : Fm [0, 2, 3, 4, 5, 6, 7] [] σ s10 := Fm.tr Fs8 (Fm.wd fs10 rfl rfl)
        refine wa_aload_n (i := 0) rfl rfl ?_
        refine wa_dup rfl ?_
        refine wa_geti ck_11 fl_11_137 ly_0 ?_
        refine wa_rw ((Sm.gi fs10 14 (Or.inl (by decide))).trans (Sm.gi fs8 14 (Or.inl (by decide)))) ?_
        refine wa_iconst (v := 1) (by decide) ?_
        refine wa_iadd ?_
        refine wa_top (fun v12 hv12 => ?_)
        have tv12 := i_addT hv12
        clear hv12
        refine wa_puti ck_11 fl_11_137 ly_0 (fun s13 hs13 => ?_)
        have Fs13 : Fm [0, 2, 3, 4, 5, 6, 7] [] σ s13 := by rw [hs13]; exact Fm.si Fs10 rfl
        refine wa_iload_n (i := 3) rfl rfl ?_
        refine wa_if_eq o_X11_on_79 (by decide) (fun h14 => ?_) (fun h14 => ?_)
        · replace h14 := bI_f (b := bx9) (rfl) h14
          refine wa_iconst (v := 0) (by decide) ?_
          refine wa_ireturn rfl rfl ?_
          exact ⟨_, rfl, Fs13, trivial⟩
        · replace h14 := bI_t (b := bx9) (rfl) h14
          refine wa_iconst (v := 1) (by decide) ?_
          refine wa_goto o_X11_on_80 (by decide) ?_
          refine wa_ireturn rfl rfl ?_
          exact ⟨_, rfl, Fs13, trivial⟩
      · replace h7 := bI_f (b := bx6) (rfl) h7
        refine wa_bipush (v := (-104)) (by decide) ?_
        refine wa_ireturn rfl rfl ?_
        exact ⟨_, rfl, (Fm.rf [0, 2, 3, 4, 5, 6, 7] [] σ), trivial⟩
    · replace h4 := bI_f (b := bx3) (rfl) h4
      refine wa_bipush (v := (-101)) (by decide) ?_
      refine wa_ireturn rfl rfl ?_
      exact ⟨_, rfl, (Fm.rf [0, 2, 3, 4, 5, 6, 7] [] σ), trivial⟩
  · replace h1 := bI_t (b := (gb σ 2 8)) (rfl) h1
    refine wa_bipush (v := (-105)) (by decide) ?_
    refine wa_ireturn rfl rfl ?_
    exact ⟨_, rfl, (Fm.rf [0, 2, 3, 4, 5, 6, 7] [] σ), trivial⟩
set_option maxHeartbeats 4000000 in
theorem sp_X11_push (G : kG9) {d : Nat} (hd : 2 ≤ d) (σ : St) : Ct G M_X11_push d [.ref 0] σ (fun r σ' => ∃ x : Int32, r = some (.int x) ∧ Fm [0, 2, 3, 4, 5, 6, 7, 8, 9, 10, 11, 12, 13, 14, 15, 16] [] σ σ' ∧ True) := by
  refine wa_start (by decide) rfl (Nat.le_of_ble_eq_true rfl) (lv := [(0, .ref 0)]) rfl o_X11_push_0 rfl ?_
  refine wa_aload_n (i := 0) rfl rfl ?_
  refine wa_getr ck_11 fl_11_16 ly_0 rf_0_1 ?_
  refine wa_getz ck_1 fl_11_122 ly_2 ?_
  refine wa_if_eq o_X11_push_13 (by decide) (fun h1 => ?_) (fun h1 => ?_)
  · replace h1 := bI_f (b := (gb σ 2 8)) (rfl) h1
    refine wa_aload_n (i := 0) rfl rfl ?_
    refine wa_getr ck_11 fl_11_23 ly_0 rf_0_2 ?_
    refine wa_geti ck_2 fl_11_221 ly_7 ?_
    refine wa_bipush (v := 8) (by decide) ?_
    refine wa_icmp_ge o_X11_push_36 (by decide) (fun h2 => ?_) (fun h2 => ?_)
    · refine wa_bipush (v := (-104)) (by decide) ?_
      refine wa_ireturn rfl rfl ?_
      exact ⟨_, rfl, (Fm.rf [0, 2, 3, 4, 5, 6, 7, 8, 9, 10, 11, 12, 13, 14, 15, 16] [] σ), trivial⟩
    · have mh2 := nle_mx h2
      refine wa_aload_n (i := 0) rfl rfl ?_
      refine wa_getr ck_11 fl_11_16 ly_0 rf_0_1 ?_
      refine wa_iconst (v := 1) (by decide) ?_
      refine wa_Vi (d9 := d - 1) [.int _] [] (sp_X1_hasRoom G (d := d - 1) (by omega) σ _) (rfl) rfl rfl (zr (by omega)) mk_X1_hasRoom ly_2 ml_11_239 (Nat.le_of_ble_eq_true rfl) (fun x4 s3 hs3 => ?_)
      obtain ⟨bx4, ex4, zs3, -⟩ := pB hs3
      subst ex4
      subst zs3
      refine wa_if_ne o_X11_push_39 (by decide) (fun h5 => ?_) (fun h5 => ?_)
      · replace h5 := bI_t (b := bx4) (rfl) h5
        refine wa_aload_n (i := 0) rfl rfl ?_
        refine wa_getr ck_11 fl_11_23 ly_0 rf_0_2 ?_
        refine wa_Vi (d9 := d - 1) [] [] (sp_X2_addLayer G (d := d - 1) (by omega) σ ) (rfl) rfl rfl (zr (by omega)) mk_X2_addLayer ly_7 ml_11_184 (Nat.le_of_ble_eq_true rfl) (fun x7 s6 hs6 => ?_)
        obtain ⟨bx7, ex7, fs6, -⟩ := pB hs6
        subst ex7
        have Fs6 : Fm [0, 2, 3, 4, 5, 6, 7, 8, 9, 10, 11, 12, 13, 14, 15, 16] [] σ s6 := Fm.tr (Fm.rf [0, 2, 3, 4, 5, 6, 7, 8, 9, 10, 11, 12, 13, 14, 15, 16] [] σ) (Fm.wd fs6 rfl rfl)
        refine wa_pop rfl ?_
        refine wa_aload_n (i := 0) rfl rfl ?_
        refine wa_getr ck_11 fl_11_16 ly_0 rf_0_1 ?_
        refine wa_iconst (v := 3) (by decide) ?_
        refine wa_Vv (d9 := d - 1) [.int _] [] (sp_X1_recordAct G (d := d - 1) (by omega) s6 _) (rfl) rfl rfl (zr (by omega)) mk_X1_recordAct ly_2 ml_11_263 (Nat.le_of_ble_eq_true rfl) (fun s8 hs8 => ?_)
        obtain ⟨fs8, -⟩ := hs8
        have Fs8 : Fm [0, 2, 3, 4, 5, 6, 7, 8, 9, 10, 11, 12, 13, 14, 15, 16] [] σ s8 := Fm.tr Fs6 (Fm.wd fs8 rfl rfl)
        refine wa_aload_n (i := 0) rfl rfl ?_
        refine wa_dup rfl ?_
        refine wa_geti ck_11 fl_11_137 ly_0 ?_
        refine wa_rw ((Sm.gi fs8 14 (Or.inl (by decide))).trans (Sm.gi fs6 14 (Or.inl (by decide)))) ?_
        refine wa_iconst (v := 1) (by decide) ?_
        refine wa_iadd ?_
        refine wa_top (fun v10 hv10 => ?_)
        have tv10 := i_addT hv10
        clear hv10
        refine wa_puti ck_11 fl_11_137 ly_0 (fun s11 hs11 => ?_)
        have Fs11 : Fm [0, 2, 3, 4, 5, 6, 7, 8, 9, 10, 11, 12, 13, 14, 15, 16] [] σ s11 := by rw [hs11]; exact Fm.si Fs8 rfl
        refine wa_aload_n (i := 0) rfl rfl ?_
        refine wa_getr ck_11 fl_11_23 ly_0 rf_0_2 ?_
        refine wa_geti ck_2 fl_11_221 ly_7 ?_
        refine wa_rw ((nxq_gi_si hs11 (by decide)).trans (Sm.gi fs8 14 (Or.inr (by decide)))) ?_
        refine wa_ireturn rfl rfl ?_
        exact ⟨_, rfl, Fs11, trivial⟩
      · replace h5 := bI_f (b := bx4) (rfl) h5
        refine wa_bipush (v := (-104)) (by decide) ?_
        refine wa_ireturn rfl rfl ?_
        exact ⟨_, rfl, (Fm.rf [0, 2, 3, 4, 5, 6, 7, 8, 9, 10, 11, 12, 13, 14, 15, 16] [] σ), trivial⟩
  · replace h1 := bI_t (b := (gb σ 2 8)) (rfl) h1
    refine wa_bipush (v := (-105)) (by decide) ?_
    refine wa_ireturn rfl rfl ?_
    exact ⟨_, rfl, (Fm.rf [0, 2, 3, 4, 5, 6, 7, 8, 9, 10, 11, 12, 13, 14, 15, 16] [] σ), trivial⟩
set_option maxHeartbeats 4000000 in
theorem sp_X11_pop (G : kG9) {d : Nat} (hd : 2 ≤ d) (σ : St) : Ct G M_X11_pop d [.ref 0] σ (fun r σ' => ∃ x : Int32, r = some (.int x) ∧ Fm [0, 2, 3, 4, 5, 6, 7] [] σ σ' ∧ True) := by
  refine wa_start (by decide) rfl (Nat.le_of_ble_eq_true rfl) (lv := [(0, .ref 0)]) rfl o_X11_pop_0 rfl ?_
  refine wa_aload_n (i := 0) rfl rfl ?_
  refine wa_getr ck_11 fl_11_16 ly_0 rf_0_1 ?_
  refine wa_getz ck_1 fl_11_122 ly_2 ?_
  refine wa_if_eq o_X11_pop_13 (by decide) (fun h1 => ?_) (fun h1 => ?_)
  · replace h1 := bI_f (b := (gb σ 2 8)) (rfl) h1
    refine wa_aload_n (i := 0) rfl rfl ?_
    refine wa_getr ck_11 fl_11_23 ly_0 rf_0_2 ?_
    refine wa_geti ck_2 fl_11_221 ly_7 ?_
    refine wa_if_ne o_X11_pop_26 (by decide) (fun h2 => ?_) (fun h2 => ?_)
    · refine wa_aload_n (i := 0) rfl rfl ?_
      refine wa_getr ck_11 fl_11_16 ly_0 rf_0_1 ?_
      refine wa_iconst (v := 1) (by decide) ?_
      refine wa_Vi (d9 := d - 1) [.int _] [] (sp_X1_hasRoom G (d := d - 1) (by omega) σ _) (rfl) rfl rfl (zr (by omega)) mk_X1_hasRoom ly_2 ml_11_239 (Nat.le_of_ble_eq_true rfl) (fun x4 s3 hs3 => ?_)
      obtain ⟨bx4, ex4, zs3, -⟩ := pB hs3
      subst ex4
      subst zs3
      refine wa_if_ne o_X11_pop_40 (by decide) (fun h5 => ?_) (fun h5 => ?_)
      · replace h5 := bI_t (b := bx4) (rfl) h5
        refine wa_aload_n (i := 0) rfl rfl ?_
        refine wa_getr ck_11 fl_11_23 ly_0 rf_0_2 ?_
        refine wa_Vi (d9 := d - 1) [] [] (sp_X2_leaveLayer G (d := d - 1) (by omega) σ ) (rfl) rfl rfl (zr (by omega)) mk_X2_leaveLayer ly_7 ml_11_188 (Nat.le_of_ble_eq_true rfl) (fun x7 s6 hs6 => ?_)
        obtain ⟨bx7, ex7, fs6, -⟩ := pB hs6
        subst ex7
        have Fs6 : Fm [0, 2, 3, 4, 5, 6, 7] [] σ s6 := Fm.tr (Fm.rf [0, 2, 3, 4, 5, 6, 7] [] σ) (Fm.wd fs6 rfl rfl)
        refine wa_pop rfl ?_
        refine wa_aload_n (i := 0) rfl rfl ?_
        refine wa_getr ck_11 fl_11_16 ly_0 rf_0_1 ?_
        refine wa_iconst (v := 4) (by decide) ?_
        refine wa_Vv (d9 := d - 1) [.int _] [] (sp_X1_recordAct G (d := d - 1) (by omega) s6 _) (rfl) rfl rfl (zr (by omega)) mk_X1_recordAct ly_2 ml_11_263 (Nat.le_of_ble_eq_true rfl) (fun s8 hs8 => ?_)
        obtain ⟨fs8, -⟩ := hs8
        have Fs8 : Fm [0, 2, 3, 4, 5, 6, 7] [] σ s8 := Fm.tr Fs6 (Fm.wd fs8 rfl rfl)
        refine wa_aload_n (i := 0) rfl rfl ?_
        refine wa_dup rfl ?_
        refine wa_geti ck_11 fl_11_137 ly_0 ?_
        refine wa_rw ((Sm.gi fs8 14 (Or.inl (by decide))).trans (Sm.gi fs6 14 (Or.inl (by decide)))) ?_
        refine wa_iconst (v := 1) (by decide) ?_
        refine wa_iadd ?_
        refine wa_top (fun v10 hv10 => ?_)
        have tv10 := i_addT hv10
        clear hv10
        refine wa_puti ck_11 fl_11_137 ly_0 (fun s11 hs11 => ?_)
        have Fs11 : Fm [0, 2, 3, 4, 5, 6, 7] [] σ s11 := by rw [hs11]; exact Fm.si Fs8 rfl
        refine wa_aload_n (i := 0) rfl rfl ?_
        refine wa_getr ck_11 fl_11_23 ly_0 rf_0_2 ?_
        refine wa_geti ck_2 fl_11_221 ly_7 ?_
        refine wa_rw ((nxq_gi_si hs11 (by decide)).trans (Sm.gi fs8 14 (Or.inr (by decide)))) ?_
        refine wa_ireturn rfl rfl ?_
        exact ⟨_, rfl, Fs11, trivial⟩
      · replace h5 := bI_f (b := bx4) (rfl) h5
        refine wa_bipush (v := (-104)) (by decide) ?_
        refine wa_ireturn rfl rfl ?_
        exact ⟨_, rfl, (Fm.rf [0, 2, 3, 4, 5, 6, 7] [] σ), trivial⟩
    · refine wa_bipush (v := (-103)) (by decide) ?_
      refine wa_ireturn rfl rfl ?_
      exact ⟨_, rfl, (Fm.rf [0, 2, 3, 4, 5, 6, 7] [] σ), trivial⟩
  · replace h1 := bI_t (b := (gb σ 2 8)) (rfl) h1
    refine wa_bipush (v := (-105)) (by decide) ?_
    refine wa_ireturn rfl rfl ?_
    exact ⟨_, rfl, (Fm.rf [0, 2, 3, 4, 5, 6, 7] [] σ), trivial⟩
set_option maxHeartbeats 4000000 in
theorem sp_X11_find (G : kG9) {d : Nat} (hd : 8 ≤ d) (σ : St) : Ct G M_X11_find d [.ref 0] σ (fun r σ' => ∃ x : Int32, r = some (.int x) ∧ Fm [0, 18, 19, 20, 21, 22, 23, 30] [] σ σ' ∧ True) := by
  refine wa_start (by decide) rfl (Nat.le_of_ble_eq_true rfl) (lv := [(0, .ref 0)]) rfl o_X11_find_0 rfl ?_
  refine wa_aload_n (i := 0) rfl rfl ?_
  refine wa_getr ck_11 fl_11_16 ly_0 rf_0_1 ?_
  refine wa_getz ck_1 fl_11_122 ly_2 ?_
  refine wa_if_eq o_X11_find_13 (by decide) (fun h1 => ?_) (fun h1 => ?_)
  · replace h1 := bI_f (b := (gb σ 2 8)) (rfl) h1
    refine wa_aload_n (i := 0) rfl rfl ?_
    refine wa_getr ck_11 fl_11_48 ly_0 rf_0_5 ?_
    refine wa_aload_n (i := 0) rfl rfl ?_
    refine wa_getr ck_11 fl_11_9 ly_0 rf_0_0 ?_
    refine wa_aload_n (i := 0) rfl rfl ?_
    refine wa_Vi (d9 := d - 1) [] [.ref 1, .ref 30] (sp_X11_useTape G (d := d - 1) (by omega) σ ) (rfl) rfl rfl (zr (by omega)) mk_X11_useTape ly_0 ml_11_230 (Nat.le_of_ble_eq_true rfl) (fun x3 s2 hs2 => ?_)
    obtain ⟨fs2, -⟩ := pI hs2
    have Fs2 : Fm [0, 18, 19, 20, 21, 22, 23, 30] [] σ s2 := Fm.tr (Fm.rf [0, 18, 19, 20, 21, 22, 23, 30] [] σ) (Fm.wd fs2 rfl rfl)
    refine wa_Vi (d9 := d - 1) [.ref 1, .int _] [] (sp_X8_readName G (d := d - 1) (by omega) s2 _) (rfl) rfl rfl (zr (by omega)) mk_X8_readName ly_30 ml_11_266 (Nat.le_of_ble_eq_true rfl) (fun x5 s4 hs4 => ?_)
    obtain ⟨fs4, -⟩ := pI hs4
    have Fs4 : Fm [0, 18, 19, 20, 21, 22, 23, 30] [] σ s4 := Fm.tr Fs2 (Fm.wd fs4 rfl rfl)
    refine wa_istore_nD (lv' := [(1, .int x5), (0, .ref 0)]) (i := 1) rfl (by decide) rfl ?_
    refine wa_iload_n (i := 1) rfl rfl ?_
    refine wa_iconst (v := (-1)) (by decide) ?_
    refine wa_icmp_ne o_X11_find_41 (by decide) (fun h6 => ?_) (fun h6 => ?_)
    · refine wa_iload_n (i := 1) rfl rfl ?_
      refine wa_ireturn rfl rfl ?_
      exact ⟨_, rfl, Fs4, trivial⟩
    · refine wa_aload_n (i := 0) rfl rfl ?_
      refine wa_Vi (d9 := d - 1) [] [] (sp_X11_faulted G (d := d - 1) (by omega) s4 ) (rfl) rfl rfl (zr (by omega)) mk_X11_faulted ly_0 ml_11_236 (Nat.le_of_ble_eq_true rfl) (fun x8 s7 hs7 => ?_)
      obtain ⟨fs7, -⟩ := pI hs7
      have Fs7 : Fm [0, 18, 19, 20, 21, 22, 23, 30] [] σ s7 := Fm.tr Fs4 (Fm.wd fs7 rfl rfl)
      refine wa_goto o_X11_find_42 (by decide) ?_
      refine wa_ireturn rfl rfl ?_
      exact ⟨_, rfl, Fs7, trivial⟩
  · replace h1 := bI_t (b := (gb σ 2 8)) (rfl) h1
    refine wa_bipush (v := (-105)) (by decide) ?_
    refine wa_ireturn rfl rfl ?_
    exact ⟨_, rfl, (Fm.rf [0, 18, 19, 20, 21, 22, 23, 30] [] σ), trivial⟩
set_option maxHeartbeats 4000000 in
theorem sp_X11_about (G : kG9) {d : Nat} (hd : 1 ≤ d) (σ : St) (a0 : Int32) (a1 : Int32) : Ct G M_X11_about d [.ref 0, .int a0, .int a1] σ (fun r σ' => ∃ x : Int32, r = some (.int x) ∧ σ = σ' ∧ True) := by
  refine wa_start (by decide) rfl (Nat.le_of_ble_eq_true rfl) (lv := [(0, .ref 0), (1, .int a0), (2, .int a1)]) rfl o_X11_about_0 rfl ?_
  have ua0 := Int32.toInt_lt a0
  have wa0 := Int32.le_toInt a0
  have ua1 := Int32.toInt_lt a1
  have wa1 := Int32.le_toInt a1
  refine wa_aload_n (i := 0) rfl rfl ?_
  refine wa_getr ck_11 fl_11_16 ly_0 rf_0_1 ?_
  refine wa_getz ck_1 fl_11_122 ly_2 ?_
  refine wa_if_eq o_X11_about_13 (by decide) (fun h1 => ?_) (fun h1 => ?_)
  · replace h1 := bI_f (b := (gb σ 2 8)) (rfl) h1
    refine wa_aload_n (i := 0) rfl rfl ?_
    refine wa_getr ck_11 fl_11_23 ly_0 rf_0_2 ?_
    refine wa_iload_n (i := 1) rfl rfl ?_
    refine wa_Vi (d9 := d - 1) [.int _] [] (sp_X2_isClaim G (d := d - 1) (by omega) σ _) (rfl) rfl rfl (zr (by omega)) mk_X2_isClaim ly_7 ml_11_176 (Nat.le_of_ble_eq_true rfl) (fun x3 s2 hs2 => ?_)
    obtain ⟨bx3, ex3, zs2, -⟩ := pB hs2
    subst ex3
    subst zs2
    refine wa_if_ne o_X11_about_27 (by decide) (fun h4 => ?_) (fun h4 => ?_)
    · replace h4 := bI_t (b := bx3) (rfl) h4
      refine wa_iload_n (i := 2) rfl rfl ?_
      refine wa_top (fun q5 hq5 => ?_)
      by_cases h6 : q5 = 0
      · refine wa_tIn (by rw [h6]; decide) (by rw [h6]; decide) (by rw [h6] <;> rfl) o_X11_about_68 (by decide) ?_
        refine wa_aload_n (i := 0) rfl rfl ?_
        refine wa_getr ck_11 fl_11_23 ly_0 rf_0_2 ?_
        refine wa_geti ck_2 fl_11_213 ly_7 ?_
        refine wa_iload_n (i := 1) rfl rfl ?_
        refine wa_iushr ?_
        refine wa_top (fun v7 hv7 => ?_)
        clear hv7
        refine wa_iconst (v := 1) (by decide) ?_
        refine wa_iand ?_
        refine wa_top (fun v8 hv8 => ?_)
        have tv8 := i_andT hv8
        clear hv8
        refine wa_ireturn rfl rfl ?_
        exact ⟨_, rfl, rfl, trivial⟩
      ·
        by_cases h9 : q5 = 1
        · refine wa_tIn (by rw [h9]; decide) (by rw [h9]; decide) (by rw [h9] <;> rfl) o_X11_about_80 (by decide) ?_
          refine wa_aload_n (i := 0) rfl rfl ?_
          refine wa_getr ck_11 fl_11_23 ly_0 rf_0_2 ?_
          refine wa_iload_n (i := 1) rfl rfl ?_
          refine wa_iconst (v := 4) (by decide) ?_
          refine wa_Vi (d9 := d - 1) [.int _, .int _] [] (sp_X2_fact G (d := d - 1) (by omega) σ _ _) (rfl) rfl rfl (zr (by omega)) mk_X2_fact ly_7 ml_11_270 (Nat.le_of_ble_eq_true rfl) (fun x11 s10 hs10 => ?_)
          obtain ⟨zs10, -⟩ := pI hs10
          subst zs10
          refine wa_ireturn rfl rfl ?_
          exact ⟨_, rfl, rfl, trivial⟩
        ·
          by_cases h12 : q5 = 2
          · refine wa_tIn (by rw [h12]; decide) (by rw [h12]; decide) (by rw [h12] <;> rfl) o_X11_about_90 (by decide) ?_
            refine wa_aload_n (i := 0) rfl rfl ?_
            refine wa_getr ck_11 fl_11_23 ly_0 rf_0_2 ?_
            refine wa_iload_n (i := 1) rfl rfl ?_
            refine wa_iconst (v := 3) (by decide) ?_
            refine wa_Vi (d9 := d - 1) [.int _, .int _] [] (sp_X2_fact G (d := d - 1) (by omega) σ _ _) (rfl) rfl rfl (zr (by omega)) mk_X2_fact ly_7 ml_11_270 (Nat.le_of_ble_eq_true rfl) (fun x14 s13 hs13 => ?_)
            obtain ⟨zs13, -⟩ := pI hs13
            subst zs13
            refine wa_ireturn rfl rfl ?_
            exact ⟨_, rfl, rfl, trivial⟩
          ·
            by_cases h15 : q5 = 3
            · refine wa_tIn (by rw [h15]; decide) (by rw [h15]; decide) (by rw [h15] <;> rfl) o_X11_about_100 (by decide) ?_
              refine wa_aload_n (i := 0) rfl rfl ?_
              refine wa_getr ck_11 fl_11_23 ly_0 rf_0_2 ?_
              refine wa_iload_n (i := 1) rfl rfl ?_
              refine wa_iconst (v := 5) (by decide) ?_
              refine wa_Vi (d9 := d - 1) [.int _, .int _] [] (sp_X2_fact G (d := d - 1) (by omega) σ _ _) (rfl) rfl rfl (zr (by omega)) mk_X2_fact ly_7 ml_11_270 (Nat.le_of_ble_eq_true rfl) (fun x17 s16 hs16 => ?_)
              obtain ⟨zs16, -⟩ := pI hs16
              subst zs16
              refine wa_ireturn rfl rfl ?_
              exact ⟨_, rfl, rfl, trivial⟩
            ·
              by_cases h18 : q5 = 4
              · refine wa_tIn (by rw [h18]; decide) (by rw [h18]; decide) (by rw [h18] <;> rfl) o_X11_about_110 (by decide) ?_
                refine wa_aload_n (i := 0) rfl rfl ?_
                refine wa_getr ck_11 fl_11_23 ly_0 rf_0_2 ?_
                refine wa_iload_n (i := 1) rfl rfl ?_
                refine wa_bipush (v := 8) (by decide) ?_
                refine wa_Vi (d9 := d - 1) [.int _, .int _] [] (sp_X2_fact G (d := d - 1) (by omega) σ _ _) (rfl) rfl rfl (zr (by omega)) mk_X2_fact ly_7 ml_11_270 (Nat.le_of_ble_eq_true rfl) (fun x20 s19 hs19 => ?_)
                obtain ⟨zs19, -⟩ := pI hs19
                subst zs19
                refine wa_ireturn rfl rfl ?_
                exact ⟨_, rfl, rfl, trivial⟩
              ·
                by_cases h21 : q5 = 5
                · refine wa_tIn (by rw [h21]; decide) (by rw [h21]; decide) (by rw [h21] <;> rfl) o_X11_about_121 (by decide) ?_
                  refine wa_aload_n (i := 0) rfl rfl ?_
                  refine wa_getr ck_11 fl_11_23 ly_0 rf_0_2 ?_
                  refine wa_iload_n (i := 1) rfl rfl ?_
                  refine wa_iconst (v := 0) (by decide) ?_
                  refine wa_Vi (d9 := d - 1) [.int _, .int _] [] (sp_X2_fact G (d := d - 1) (by omega) σ _ _) (rfl) rfl rfl (zr (by omega)) mk_X2_fact ly_7 ml_11_270 (Nat.le_of_ble_eq_true rfl) (fun x23 s22 hs22 => ?_)
                  obtain ⟨zs22, -⟩ := pI hs22
                  subst zs22
                  refine wa_ireturn rfl rfl ?_
                  exact ⟨_, rfl, rfl, trivial⟩
                ·
                  refine wa_tOut (by (try simp only [vp_in_iff, Int32.lt_iff_toInt_lt, Int32.le_iff_toInt_le, ← Int32.toInt_inj, Int32.reduceToInt, n_1, n_2, n_8, Int32.toNatClampNeg, Int64.lt_iff_toInt_lt, Int64.le_iff_toInt_le, ← Int64.toInt_inj, Int64.reduceToInt, Int32.toInt_toInt64, lg_cmp_ge, lg_cmp_le, lg_cmp_gt, lg_cmp_lt, lg_cmp_eq] at *) <;> omega) o_X11_about_131 (by decide) ?_
                  refine wa_iconst (v := (-1)) (by decide) ?_
                  refine wa_ireturn rfl rfl ?_
                  exact ⟨_, rfl, rfl, trivial⟩
    · replace h4 := bI_f (b := bx3) (rfl) h4
      refine wa_bipush (v := (-101)) (by decide) ?_
      refine wa_ireturn rfl rfl ?_
      exact ⟨_, rfl, rfl, trivial⟩
  · replace h1 := bI_t (b := (gb σ 2 8)) (rfl) h1
    refine wa_bipush (v := (-105)) (by decide) ?_
    refine wa_ireturn rfl rfl ?_
    exact ⟨_, rfl, rfl, trivial⟩
set_option maxHeartbeats 4000000 in
theorem sp_X11_atom (G : kG9) {d : Nat} (hd : 1 ≤ d) (σ : St) (a0 : Int32) (a1 : Int32) (a2 : Int32) : Ct G M_X11_atom d [.ref 0, .int a0, .int a1, .int a2] σ (fun r σ' => ∃ x : Int32, r = some (.int x) ∧ σ = σ' ∧ True) := by
  refine wa_start (by decide) rfl (Nat.le_of_ble_eq_true rfl) (lv := [(0, .ref 0), (1, .int a0), (2, .int a1), (3, .int a2)]) rfl o_X11_atom_0 rfl ?_
  have ua0 := Int32.toInt_lt a0
  have wa0 := Int32.le_toInt a0
  have ua1 := Int32.toInt_lt a1
  have wa1 := Int32.le_toInt a1
  have ua2 := Int32.toInt_lt a2
  have wa2 := Int32.le_toInt a2
  refine wa_aload_n (i := 0) rfl rfl ?_
  refine wa_getr ck_11 fl_11_16 ly_0 rf_0_1 ?_
  refine wa_getz ck_1 fl_11_122 ly_2 ?_
  refine wa_if_eq o_X11_atom_13 (by decide) (fun h1 => ?_) (fun h1 => ?_)
  · replace h1 := bI_f (b := (gb σ 2 8)) (rfl) h1
    refine wa_aload_n (i := 0) rfl rfl ?_
    refine wa_getr ck_11 fl_11_23 ly_0 rf_0_2 ?_
    refine wa_iload_n (i := 1) rfl rfl ?_
    refine wa_Vi (d9 := d - 1) [.int _] [] (sp_X2_isClaim G (d := d - 1) (by omega) σ _) (rfl) rfl rfl (zr (by omega)) mk_X2_isClaim ly_7 ml_11_176 (Nat.le_of_ble_eq_true rfl) (fun x3 s2 hs2 => ?_)
    obtain ⟨bx3, ex3, zs2, -⟩ := pB hs2
    subst ex3
    subst zs2
    refine wa_if_ne o_X11_atom_27 (by decide) (fun h4 => ?_) (fun h4 => ?_)
    · replace h4 := bI_t (b := bx3) (rfl) h4
      refine wa_iload_n (i := 2) rfl rfl ?_
      refine wa_if_lt o_X11_atom_53 (by decide) (fun h5 => ?_) (fun h5 => ?_)
      · refine wa_bipush (v := (-102)) (by decide) ?_
        refine wa_ireturn rfl rfl ?_
        exact ⟨_, rfl, rfl, trivial⟩
      · refine wa_iload_n (i := 2) rfl rfl ?_
        refine wa_aload_n (i := 0) rfl rfl ?_
        refine wa_getr ck_11 fl_11_23 ly_0 rf_0_2 ?_
        refine wa_iload_n (i := 1) rfl rfl ?_
        refine wa_iconst (v := 4) (by decide) ?_
        refine wa_Vi (d9 := d - 1) [.int _, .int _] [.int a1] (sp_X2_fact G (d := d - 1) (by omega) σ _ _) (rfl) rfl rfl (zr (by omega)) mk_X2_fact ly_7 ml_11_270 (Nat.le_of_ble_eq_true rfl) (fun x7 s6 hs6 => ?_)
        obtain ⟨zs6, -⟩ := pI hs6
        subst zs6
        refine wa_icmp_ge o_X11_atom_53 (by decide) (fun h8 => ?_) (fun h8 => ?_)
        · refine wa_bipush (v := (-102)) (by decide) ?_
          refine wa_ireturn rfl rfl ?_
          exact ⟨_, rfl, rfl, trivial⟩
        · have mh8 := nle_mx h8
          refine wa_iload_n (i := 3) rfl rfl ?_
          refine wa_if_lt o_X11_atom_53 (by decide) (fun h9 => ?_) (fun h9 => ?_)
          · refine wa_bipush (v := (-102)) (by decide) ?_
            refine wa_ireturn rfl rfl ?_
            exact ⟨_, rfl, rfl, trivial⟩
          · refine wa_iload_n (i := 3) rfl rfl ?_
            refine wa_iconst (v := 5) (by decide) ?_
            refine wa_icmp_le o_X11_atom_56 (by decide) (fun h10 => ?_) (fun h10 => ?_)
            · refine wa_aload_n (i := 0) rfl rfl ?_
              refine wa_getr ck_11 fl_11_23 ly_0 rf_0_2 ?_
              refine wa_aload_n (i := 0) rfl rfl ?_
              refine wa_getr ck_11 fl_11_23 ly_0 rf_0_2 ?_
              refine wa_iload_n (i := 1) rfl rfl ?_
              refine wa_iload_n (i := 2) rfl rfl ?_
              refine wa_Vi (d9 := d - 1) [.int _, .int _] [.ref 7] (sp_X2_atomOf G (d := d - 1) (by omega) σ _ _) (rfl) rfl rfl (zr (by omega)) mk_X2_atomOf ly_7 ml_11_273 (Nat.le_of_ble_eq_true rfl) (fun x12 s11 hs11 => ?_)
              obtain ⟨zs11, -⟩ := pI hs11
              subst zs11
              refine wa_iload_n (i := 3) rfl rfl ?_
              refine wa_Vi (d9 := d - 1) [.int _, .int _] [] (sp_X2_pooled G (d := d - 1) (by omega) σ _ _) (rfl) rfl rfl (zr (by omega)) mk_X2_pooled ly_7 ml_11_276 (Nat.le_of_ble_eq_true rfl) (fun x14 s13 hs13 => ?_)
              obtain ⟨zs13, -⟩ := pI hs13
              subst zs13
              refine wa_ireturn rfl rfl ?_
              exact ⟨_, rfl, rfl, trivial⟩
            · refine wa_bipush (v := (-102)) (by decide) ?_
              refine wa_ireturn rfl rfl ?_
              exact ⟨_, rfl, rfl, trivial⟩
    · replace h4 := bI_f (b := bx3) (rfl) h4
      refine wa_bipush (v := (-101)) (by decide) ?_
      refine wa_ireturn rfl rfl ?_
      exact ⟨_, rfl, rfl, trivial⟩
  · replace h1 := bI_t (b := (gb σ 2 8)) (rfl) h1
    refine wa_bipush (v := (-105)) (by decide) ?_
    refine wa_ireturn rfl rfl ?_
    exact ⟨_, rfl, rfl, trivial⟩
set_option maxHeartbeats 4000000 in
theorem sp_X11_printed (G : kG9) {d : Nat} (hd : 1 ≤ d) (σ : St) (a0 : Int32) : Ct G M_X11_printed d [.ref 0, .int a0] σ (fun r σ' => ∃ x : Int32, r = some (.int x) ∧ σ = σ' ∧ True) := by
  refine wa_start (by decide) rfl (Nat.le_of_ble_eq_true rfl) (lv := [(0, .ref 0), (1, .int a0)]) rfl o_X11_printed_0 rfl ?_
  have ua0 := Int32.toInt_lt a0
  have wa0 := Int32.le_toInt a0
  refine wa_aload_n (i := 0) rfl rfl ?_
  refine wa_getr ck_11 fl_11_23 ly_0 rf_0_2 ?_
  refine wa_iload_n (i := 1) rfl rfl ?_
  refine wa_Vi (d9 := d - 1) [.int _] [] (sp_X2_shownByte G (d := d - 1) (by omega) σ _) (rfl) rfl rfl (zr (by omega)) mk_X2_shownByte ly_7 ml_11_283 (Nat.le_of_ble_eq_true rfl) (fun x2 s1 hs1 => ?_)
  obtain ⟨zs1, -⟩ := pI hs1
  subst zs1
  refine wa_ireturn rfl rfl ?_
  exact ⟨_, rfl, rfl, trivial⟩
set_option maxHeartbeats 4000000 in
theorem sp_X11_isFar (G : kG9) {d : Nat} (hd : 0 ≤ d) (σ : St) (a0 : Int32) (a1 : Int64) : Ct G M_X11_isFar d [.ref 0, .int a0, .long a1] σ (fun r σ' => ∃ x : Bool, r = some (.int (bI x)) ∧ σ = σ' ∧ True) := by
  refine wa_start (by decide) rfl (Nat.le_of_ble_eq_true rfl) (lv := [(0, .ref 0), (1, .int a0), (2, .long a1)]) rfl o_X11_isFar_0 rfl ?_
  have ua0 := Int32.toInt_lt a0
  have wa0 := Int32.le_toInt a0
  refine wa_iload_n (i := 1) rfl rfl ?_
  refine wa_aload_n (i := 0) rfl rfl ?_
  refine wa_getr ck_11 fl_11_23 ly_0 rf_0_2 ?_
  refine wa_geti ck_2 fl_11_210 ly_7 ?_
  refine wa_icmp_ge o_X11_isFar_31 (by decide) (fun h1 => ?_) (fun h1 => ?_)
  · refine wa_iconst (v := 0) (by decide) ?_
    refine wa_zreturn false (rfl) rfl rfl ?_
    exact ⟨_, rfl, rfl, trivial⟩
  · have mh1 := nle_mx h1
    refine wa_lload_n (i := 2) rfl rfl ?_
    refine wa_ldc2 (v := (1000000000000)) (allW_in (kT_6 _ (List.mem_of_getElem? (i := 88) rfl)) rfl) ?_
    refine wa_lcmp ?_
    refine wa_top (fun v2 hv2 => ?_)
    have tv2 := i_cmpT hv2
    clear hv2
    refine wa_if_gt o_X11_isFar_27 (by decide) (fun h3 => ?_) (fun h3 => ?_)
    · refine wa_iconst (v := 1) (by decide) ?_
      refine wa_goto o_X11_isFar_32 (by decide) ?_
      refine wa_zreturn true (rfl) rfl rfl ?_
      exact ⟨_, rfl, rfl, trivial⟩
    · refine wa_lload_n (i := 2) rfl rfl ?_
      refine wa_ldc2 (v := (-1000000000000)) (allW_in (kT_6 _ (List.mem_of_getElem? (i := 89) rfl)) rfl) ?_
      refine wa_lcmp ?_
      refine wa_top (fun v4 hv4 => ?_)
      have tv4 := i_cmpT hv4
      clear hv4
      refine wa_if_ge o_X11_isFar_31 (by decide) (fun h5 => ?_) (fun h5 => ?_)
      · refine wa_iconst (v := 0) (by decide) ?_
        refine wa_zreturn false (rfl) rfl rfl ?_
        exact ⟨_, rfl, rfl, trivial⟩
      · refine wa_iconst (v := 1) (by decide) ?_
        refine wa_goto o_X11_isFar_32 (by decide) ?_
        refine wa_zreturn true (rfl) rfl rfl ?_
        exact ⟨_, rfl, rfl, trivial⟩
set_option maxHeartbeats 4000000 in
theorem sp_X11_holds (G : kG9) {d : Nat} (hd : 5 ≤ d) (σ : St) (a0 : Int32) (a1 : Int64) (a2 : Int64) (a3 : Int64) (a4 : Int64) (r1 : 0 ≤ (gi σ 31 13).toInt ∧ (gi σ 31 13).toInt ≤ 3000) (r2 : 0 ≤ (gi σ 41 15).toInt ∧ (gi σ 41 15).toInt ≤ 1100) : Ct G M_X11_holds d [.ref 0, .int a0, .long a1, .long a2, .long a3, .long a4] σ (fun r σ' => ∃ x : Int32, r = some (.int x) ∧ Fm [31, 32, 33, 34, 35, 36, 37, 38, 39, 40, 41, 42, 43] [] σ σ' ∧ (0 ≤ (gi σ' 31 13).toInt ∧ (gi σ' 31 13).toInt ≤ 3000) ∧ (0 ≤ (gi σ' 41 15).toInt ∧ (gi σ' 41 15).toInt ≤ 1100) ∧ True) := by
  refine wa_start (by decide) rfl (Nat.le_of_ble_eq_true rfl) (lv := [(0, .ref 0), (1, .int a0), (2, .long a1), (4, .long a2), (6, .long a3), (8, .long a4)]) rfl o_X11_holds_0 rfl ?_
  have ua0 := Int32.toInt_lt a0
  have wa0 := Int32.le_toInt a0
  refine wa_aload_n (i := 0) rfl rfl ?_
  refine wa_getr ck_11 fl_11_16 ly_0 rf_0_1 ?_
  refine wa_getz ck_1 fl_11_122 ly_2 ?_
  refine wa_if_eq o_X11_holds_13 (by decide) (fun h1 => ?_) (fun h1 => ?_)
  · replace h1 := bI_f (b := (gb σ 2 8)) (rfl) h1
    refine wa_aload_n (i := 0) rfl rfl ?_
    refine wa_getr ck_11 fl_11_23 ly_0 rf_0_2 ?_
    refine wa_iload_n (i := 1) rfl rfl ?_
    refine wa_Vi (d9 := d - 1) [.int _] [] (sp_X2_isClaim G (d := d - 1) (by omega) σ _) (rfl) rfl rfl (zr (by omega)) mk_X2_isClaim ly_7 ml_11_176 (Nat.le_of_ble_eq_true rfl) (fun x3 s2 hs2 => ?_)
    obtain ⟨bx3, ex3, zs2, -⟩ := pB hs2
    subst ex3
    subst zs2
    refine wa_if_ne o_X11_holds_27 (by decide) (fun h4 => ?_) (fun h4 => ?_)
    · replace h4 := bI_t (b := bx3) (rfl) h4
      refine wa_aload_n (i := 0) rfl rfl ?_
      refine wa_iconst (v := 0) (by decide) ?_
      refine wa_lload_n (i := 2) rfl rfl ?_
      refine wa_Vi (d9 := d - 1) [.int _, .long _] [] (sp_X11_isFar G (d := d - 1) (by omega) σ _ _) (rfl) rfl rfl (zr (by omega)) mk_X11_isFar ly_0 ml_11_286 (Nat.le_of_ble_eq_true rfl) (fun x6 s5 hs5 => ?_)
      obtain ⟨bx6, ex6, zs5, -⟩ := pB hs5
      subst ex6
      subst zs5
      refine wa_if_ne o_X11_holds_66 (by decide) (fun h7 => ?_) (fun h7 => ?_)
      · replace h7 := bI_t (b := bx6) (rfl) h7
        refine wa_bipush (v := (-102)) (by decide) ?_
        refine wa_ireturn rfl rfl ?_
        exact ⟨_, rfl, (Fm.rf [31, 32, 33, 34, 35, 36, 37, 38, 39, 40, 41, 42, 43] [] σ), (by first | assumption | (((try simp only [vp_in_iff, Int32.lt_iff_toInt_lt, Int32.le_iff_toInt_le, ← Int32.toInt_inj, Int32.reduceToInt, n_1, n_2, n_8, Int32.toNatClampNeg, Int64.lt_iff_toInt_lt, Int64.le_iff_toInt_le, ← Int64.toInt_inj, Int64.reduceToInt, Int32.toInt_toInt64, lg_cmp_ge, lg_cmp_le, lg_cmp_gt, lg_cmp_lt, lg_cmp_eq, Bool.false_eq_true, Bool.true_eq_false, reduceCtorEq, false_iff, true_iff, iff_true, iff_false, and_true, true_and, and_false, false_and, reduceIte, ite_true, ite_false, eq_self] at *)) <;> omega)), (by first | assumption | (((try simp only [vp_in_iff, Int32.lt_iff_toInt_lt, Int32.le_iff_toInt_le, ← Int32.toInt_inj, Int32.reduceToInt, n_1, n_2, n_8, Int32.toNatClampNeg, Int64.lt_iff_toInt_lt, Int64.le_iff_toInt_le, ← Int64.toInt_inj, Int64.reduceToInt, Int32.toInt_toInt64, lg_cmp_ge, lg_cmp_le, lg_cmp_gt, lg_cmp_lt, lg_cmp_eq, Bool.false_eq_true, Bool.true_eq_false, reduceCtorEq, false_iff, true_iff, iff_true, iff_false, and_true, true_and, and_false, false_and, reduceIte, ite_true, ite_false, eq_self] at *)) <;> omega)), trivial⟩
      · replace h7 := bI_f (b := bx6) (rfl) h7
        refine wa_aload_n (i := 0) rfl rfl ?_
        refine wa_iconst (v := 1) (by decide) ?_
        refine wa_lload rfl ?_
        refine wa_Vi (d9 := d - 1) [.int _, .long _] [] (sp_X11_isFar G (d := d - 1) (by omega) σ _ _) (rfl) rfl rfl (zr (by omega)) mk_X11_isFar ly_0 ml_11_286 (Nat.le_of_ble_eq_true rfl) (fun x9 s8 hs8 => ?_)
        obtain ⟨bx9, ex9, zs8, -⟩ := pB hs8
        subst ex9
        subst zs8
        refine wa_if_ne o_X11_holds_66 (by decide) (fun h10 => ?_) (fun h10 => ?_)
        · replace h10 := bI_t (b := bx9) (rfl) h10
          refine wa_bipush (v := (-102)) (by decide) ?_
          refine wa_ireturn rfl rfl ?_
          exact ⟨_, rfl, (Fm.rf [31, 32, 33, 34, 35, 36, 37, 38, 39, 40, 41, 42, 43] [] σ), (by first | assumption | (((try simp only [vp_in_iff, Int32.lt_iff_toInt_lt, Int32.le_iff_toInt_le, ← Int32.toInt_inj, Int32.reduceToInt, n_1, n_2, n_8, Int32.toNatClampNeg, Int64.lt_iff_toInt_lt, Int64.le_iff_toInt_le, ← Int64.toInt_inj, Int64.reduceToInt, Int32.toInt_toInt64, lg_cmp_ge, lg_cmp_le, lg_cmp_gt, lg_cmp_lt, lg_cmp_eq, Bool.false_eq_true, Bool.true_eq_false, reduceCtorEq, false_iff, true_iff, iff_true, iff_false, and_true, true_and, and_false, false_and, reduceIte, ite_true, ite_false, eq_self] at *)) <;> omega)), (by first | assumption | (((try simp only [vp_in_iff, Int32.lt_iff_toInt_lt, Int32.le_iff_toInt_le, ← Int32.toInt_inj, Int32.reduceToInt, n_1, n_2, n_8, Int32.toNatClampNeg, Int64.lt_iff_toInt_lt, Int64.le_iff_toInt_le, ← Int64.toInt_inj, Int64.reduceToInt, Int32.toInt_toInt64, lg_cmp_ge, lg_cmp_le, lg_cmp_gt, lg_cmp_lt, lg_cmp_eq, Bool.false_eq_true, Bool.true_eq_false, reduceCtorEq, false_iff, true_iff, iff_true, iff_false, and_true, true_and, and_false, false_and, reduceIte, ite_true, ite_false, eq_self] at *)) <;> omega)), trivial⟩
        · replace h10 := bI_f (b := bx9) (rfl) h10
          refine wa_aload_n (i := 0) rfl rfl ?_
          refine wa_iconst (v := 2) (by decide) ?_
          refine wa_lload rfl ?_
          refine wa_Vi (d9 := d - 1) [.int _, .long _] [] (sp_X11_isFar G (d := d - 1) (by omega) σ _ _) (rfl) rfl rfl (zr (by omega)) mk_X11_isFar ly_0 ml_11_286 (Nat.le_of_ble_eq_true rfl) (fun x12 s11 hs11 => ?_)
          obtain ⟨bx12, ex12, zs11, -⟩ := pB hs11
          subst ex12
          subst zs11
          refine wa_if_ne o_X11_holds_66 (by decide) (fun h13 => ?_) (fun h13 => ?_)
          · replace h13 := bI_t (b := bx12) (rfl) h13
            refine wa_bipush (v := (-102)) (by decide) ?_
            refine wa_ireturn rfl rfl ?_
            exact ⟨_, rfl, (Fm.rf [31, 32, 33, 34, 35, 36, 37, 38, 39, 40, 41, 42, 43] [] σ), (by first | assumption | (((try simp only [vp_in_iff, Int32.lt_iff_toInt_lt, Int32.le_iff_toInt_le, ← Int32.toInt_inj, Int32.reduceToInt, n_1, n_2, n_8, Int32.toNatClampNeg, Int64.lt_iff_toInt_lt, Int64.le_iff_toInt_le, ← Int64.toInt_inj, Int64.reduceToInt, Int32.toInt_toInt64, lg_cmp_ge, lg_cmp_le, lg_cmp_gt, lg_cmp_lt, lg_cmp_eq, Bool.false_eq_true, Bool.true_eq_false, reduceCtorEq, false_iff, true_iff, iff_true, iff_false, and_true, true_and, and_false, false_and, reduceIte, ite_true, ite_false, eq_self] at *)) <;> omega)), (by first | assumption | (((try simp only [vp_in_iff, Int32.lt_iff_toInt_lt, Int32.le_iff_toInt_le, ← Int32.toInt_inj, Int32.reduceToInt, n_1, n_2, n_8, Int32.toNatClampNeg, Int64.lt_iff_toInt_lt, Int64.le_iff_toInt_le, ← Int64.toInt_inj, Int64.reduceToInt, Int32.toInt_toInt64, lg_cmp_ge, lg_cmp_le, lg_cmp_gt, lg_cmp_lt, lg_cmp_eq, Bool.false_eq_true, Bool.true_eq_false, reduceCtorEq, false_iff, true_iff, iff_true, iff_false, and_true, true_and, and_false, false_and, reduceIte, ite_true, ite_false, eq_self] at *)) <;> omega)), trivial⟩
          · replace h13 := bI_f (b := bx12) (rfl) h13
            refine wa_aload_n (i := 0) rfl rfl ?_
            refine wa_iconst (v := 3) (by decide) ?_
            refine wa_lload rfl ?_
            refine wa_Vi (d9 := d - 1) [.int _, .long _] [] (sp_X11_isFar G (d := d - 1) (by omega) σ _ _) (rfl) rfl rfl (zr (by omega)) mk_X11_isFar ly_0 ml_11_286 (Nat.le_of_ble_eq_true rfl) (fun x15 s14 hs14 => ?_)
            obtain ⟨bx15, ex15, zs14, -⟩ := pB hs14
            subst ex15
            subst zs14
            refine wa_if_eq o_X11_holds_69 (by decide) (fun h16 => ?_) (fun h16 => ?_)
            · replace h16 := bI_f (b := bx15) (rfl) h16
              refine wa_aload_n (i := 0) rfl rfl ?_
              refine wa_getr ck_11 fl_11_64 ly_0 rf_0_7 ?_
              refine wa_iload_n (i := 1) rfl rfl ?_
              refine wa_lload_n (i := 2) rfl rfl ?_
              refine wa_lload rfl ?_
              refine wa_lload rfl ?_
              refine wa_lload rfl ?_
              refine wa_Vi (d9 := d - 1) [.int _, .long _, .long _, .long _, .long _] [] (sp_X0_isSoFor G (d := d - 1) (by omega) σ _ _ _ _ _ (by first | assumption | exact Or.inl rfl | exact Or.inr rfl | (((try simp only [vp_in_iff, Int32.lt_iff_toInt_lt, Int32.le_iff_toInt_le, ← Int32.toInt_inj, Int32.reduceToInt, n_1, n_2, n_8, Int32.toNatClampNeg, Int64.lt_iff_toInt_lt, Int64.le_iff_toInt_le, ← Int64.toInt_inj, Int64.reduceToInt, Int32.toInt_toInt64, lg_cmp_ge, lg_cmp_le, lg_cmp_gt, lg_cmp_lt, lg_cmp_eq, Bool.false_eq_true, Bool.true_eq_false, reduceCtorEq, false_iff, true_iff, iff_true, iff_false, and_true, true_and, and_false, false_and, reduceIte, ite_true, ite_false, eq_self] at *)) <;> omega)) (by first | assumption | exact Or.inl rfl | exact Or.inr rfl | (((try simp only [vp_in_iff, Int32.lt_iff_toInt_lt, Int32.le_iff_toInt_le, ← Int32.toInt_inj, Int32.reduceToInt, n_1, n_2, n_8, Int32.toNatClampNeg, Int64.lt_iff_toInt_lt, Int64.le_iff_toInt_le, ← Int64.toInt_inj, Int64.reduceToInt, Int32.toInt_toInt64, lg_cmp_ge, lg_cmp_le, lg_cmp_gt, lg_cmp_lt, lg_cmp_eq, Bool.false_eq_true, Bool.true_eq_false, reduceCtorEq, false_iff, true_iff, iff_true, iff_false, and_true, true_and, and_false, false_and, reduceIte, ite_true, ite_false, eq_self] at *)) <;> omega))) (rfl) rfl rfl (zr (by omega)) mk_X0_isSoFor ly_41 ml_11_290 (Nat.le_of_ble_eq_true rfl) (fun x18 s17 hs17 => ?_)
              obtain ⟨bx18, ex18, fs17, cx18_1, cx18_2, -⟩ := pB hs17
              subst ex18
              have Fs17 : Fm [31, 32, 33, 34, 35, 36, 37, 38, 39, 40, 41, 42, 43] [] σ s17 := Fm.tr (Fm.rf [31, 32, 33, 34, 35, 36, 37, 38, 39, 40, 41, 42, 43] [] σ) (Fm.wd fs17 rfl rfl)
              refine wa_if_eq o_X11_holds_91 (by decide) (fun h19 => ?_) (fun h19 => ?_)
              · replace h19 := bI_f (b := bx18) (rfl) h19
                refine wa_iconst (v := 0) (by decide) ?_
                refine wa_ireturn rfl rfl ?_
                exact ⟨_, rfl, Fs17, (by first | assumption | (((try simp only [vp_in_iff, Int32.lt_iff_toInt_lt, Int32.le_iff_toInt_le, ← Int32.toInt_inj, Int32.reduceToInt, n_1, n_2, n_8, Int32.toNatClampNeg, Int64.lt_iff_toInt_lt, Int64.le_iff_toInt_le, ← Int64.toInt_inj, Int64.reduceToInt, Int32.toInt_toInt64, lg_cmp_ge, lg_cmp_le, lg_cmp_gt, lg_cmp_lt, lg_cmp_eq, Bool.false_eq_true, Bool.true_eq_false, reduceCtorEq, false_iff, true_iff, iff_true, iff_false, and_true, true_and, and_false, false_and, reduceIte, ite_true, ite_false, eq_self] at *)) <;> omega)), (by first | assumption | (((try simp only [vp_in_iff, Int32.lt_iff_toInt_lt, Int32.le_iff_toInt_le, ← Int32.toInt_inj, Int32.reduceToInt, n_1, n_2, n_8, Int32.toNatClampNeg, Int64.lt_iff_toInt_lt, Int64.le_iff_toInt_le, ← Int64.toInt_inj, Int64.reduceToInt, Int32.toInt_toInt64, lg_cmp_ge, lg_cmp_le, lg_cmp_gt, lg_cmp_lt, lg_cmp_eq, Bool.false_eq_true, Bool.true_eq_false, reduceCtorEq, false_iff, true_iff, iff_true, iff_false, and_true, true_and, and_false, false_and, reduceIte, ite_true, ite_false, eq_self] at *)) <;> omega)), trivial⟩
              · replace h19 := bI_t (b := bx18) (rfl) h19
                refine wa_iconst (v := 1) (by decide) ?_
                refine wa_goto o_X11_holds_92 (by decide) ?_
                refine wa_ireturn rfl rfl ?_
                exact ⟨_, rfl, Fs17, (by first | assumption | (((try simp only [vp_in_iff, Int32.lt_iff_toInt_lt, Int32.le_iff_toInt_le, ← Int32.toInt_inj, Int32.reduceToInt, n_1, n_2, n_8, Int32.toNatClampNeg, Int64.lt_iff_toInt_lt, Int64.le_iff_toInt_le, ← Int64.toInt_inj, Int64.reduceToInt, Int32.toInt_toInt64, lg_cmp_ge, lg_cmp_le, lg_cmp_gt, lg_cmp_lt, lg_cmp_eq, Bool.false_eq_true, Bool.true_eq_false, reduceCtorEq, false_iff, true_iff, iff_true, iff_false, and_true, true_and, and_false, false_and, reduceIte, ite_true, ite_false, eq_self] at *)) <;> omega)), (by first | assumption | (((try simp only [vp_in_iff, Int32.lt_iff_toInt_lt, Int32.le_iff_toInt_le, ← Int32.toInt_inj, Int32.reduceToInt, n_1, n_2, n_8, Int32.toNatClampNeg, Int64.lt_iff_toInt_lt, Int64.le_iff_toInt_le, ← Int64.toInt_inj, Int64.reduceToInt, Int32.toInt_toInt64, lg_cmp_ge, lg_cmp_le, lg_cmp_gt, lg_cmp_lt, lg_cmp_eq, Bool.false_eq_true, Bool.true_eq_false, reduceCtorEq, false_iff, true_iff, iff_true, iff_false, and_true, true_and, and_false, false_and, reduceIte, ite_true, ite_false, eq_self] at *)) <;> omega)), trivial⟩
            · replace h16 := bI_t (b := bx15) (rfl) h16
              refine wa_bipush (v := (-102)) (by decide) ?_
              refine wa_ireturn rfl rfl ?_
              exact ⟨_, rfl, (Fm.rf [31, 32, 33, 34, 35, 36, 37, 38, 39, 40, 41, 42, 43] [] σ), (by first | assumption | (((try simp only [vp_in_iff, Int32.lt_iff_toInt_lt, Int32.le_iff_toInt_le, ← Int32.toInt_inj, Int32.reduceToInt, n_1, n_2, n_8, Int32.toNatClampNeg, Int64.lt_iff_toInt_lt, Int64.le_iff_toInt_le, ← Int64.toInt_inj, Int64.reduceToInt, Int32.toInt_toInt64, lg_cmp_ge, lg_cmp_le, lg_cmp_gt, lg_cmp_lt, lg_cmp_eq, Bool.false_eq_true, Bool.true_eq_false, reduceCtorEq, false_iff, true_iff, iff_true, iff_false, and_true, true_and, and_false, false_and, reduceIte, ite_true, ite_false, eq_self] at *)) <;> omega)), (by first | assumption | (((try simp only [vp_in_iff, Int32.lt_iff_toInt_lt, Int32.le_iff_toInt_le, ← Int32.toInt_inj, Int32.reduceToInt, n_1, n_2, n_8, Int32.toNatClampNeg, Int64.lt_iff_toInt_lt, Int64.le_iff_toInt_le, ← Int64.toInt_inj, Int64.reduceToInt, Int32.toInt_toInt64, lg_cmp_ge, lg_cmp_le, lg_cmp_gt, lg_cmp_lt, lg_cmp_eq, Bool.false_eq_true, Bool.true_eq_false, reduceCtorEq, false_iff, true_iff, iff_true, iff_false, and_true, true_and, and_false, false_and, reduceIte, ite_true, ite_false, eq_self] at *)) <;> omega)), trivial⟩
    · replace h4 := bI_f (b := bx3) (rfl) h4
      refine wa_bipush (v := (-101)) (by decide) ?_
      refine wa_ireturn rfl rfl ?_
      exact ⟨_, rfl, (Fm.rf [31, 32, 33, 34, 35, 36, 37, 38, 39, 40, 41, 42, 43] [] σ), (by first | assumption | (((try simp only [vp_in_iff, Int32.lt_iff_toInt_lt, Int32.le_iff_toInt_le, ← Int32.toInt_inj, Int32.reduceToInt, n_1, n_2, n_8, Int32.toNatClampNeg, Int64.lt_iff_toInt_lt, Int64.le_iff_toInt_le, ← Int64.toInt_inj, Int64.reduceToInt, Int32.toInt_toInt64, lg_cmp_ge, lg_cmp_le, lg_cmp_gt, lg_cmp_lt, lg_cmp_eq, Bool.false_eq_true, Bool.true_eq_false, reduceCtorEq, false_iff, true_iff, iff_true, iff_false, and_true, true_and, and_false, false_and, reduceIte, ite_true, ite_false, eq_self] at *)) <;> omega)), (by first | assumption | (((try simp only [vp_in_iff, Int32.lt_iff_toInt_lt, Int32.le_iff_toInt_le, ← Int32.toInt_inj, Int32.reduceToInt, n_1, n_2, n_8, Int32.toNatClampNeg, Int64.lt_iff_toInt_lt, Int64.le_iff_toInt_le, ← Int64.toInt_inj, Int64.reduceToInt, Int32.toInt_toInt64, lg_cmp_ge, lg_cmp_le, lg_cmp_gt, lg_cmp_lt, lg_cmp_eq, Bool.false_eq_true, Bool.true_eq_false, reduceCtorEq, false_iff, true_iff, iff_true, iff_false, and_true, true_and, and_false, false_and, reduceIte, ite_true, ite_false, eq_self] at *)) <;> omega)), trivial⟩
  · replace h1 := bI_t (b := (gb σ 2 8)) (rfl) h1
    refine wa_bipush (v := (-105)) (by decide) ?_
    refine wa_ireturn rfl rfl ?_
    exact ⟨_, rfl, (Fm.rf [31, 32, 33, 34, 35, 36, 37, 38, 39, 40, 41, 42, 43] [] σ), (by first | assumption | (((try simp only [vp_in_iff, Int32.lt_iff_toInt_lt, Int32.le_iff_toInt_le, ← Int32.toInt_inj, Int32.reduceToInt, n_1, n_2, n_8, Int32.toNatClampNeg, Int64.lt_iff_toInt_lt, Int64.le_iff_toInt_le, ← Int64.toInt_inj, Int64.reduceToInt, Int32.toInt_toInt64, lg_cmp_ge, lg_cmp_le, lg_cmp_gt, lg_cmp_lt, lg_cmp_eq, Bool.false_eq_true, Bool.true_eq_false, reduceCtorEq, false_iff, true_iff, iff_true, iff_false, and_true, true_and, and_false, false_and, reduceIte, ite_true, ite_false, eq_self] at *)) <;> omega)), (by first | assumption | (((try simp only [vp_in_iff, Int32.lt_iff_toInt_lt, Int32.le_iff_toInt_le, ← Int32.toInt_inj, Int32.reduceToInt, n_1, n_2, n_8, Int32.toNatClampNeg, Int64.lt_iff_toInt_lt, Int64.le_iff_toInt_le, ← Int64.toInt_inj, Int64.reduceToInt, Int32.toInt_toInt64, lg_cmp_ge, lg_cmp_le, lg_cmp_gt, lg_cmp_lt, lg_cmp_eq, Bool.false_eq_true, Bool.true_eq_false, reduceCtorEq, false_iff, true_iff, iff_true, iff_false, and_true, true_and, and_false, false_and, reduceIte, ite_true, ite_false, eq_self] at *)) <;> omega)), trivial⟩
set_option maxHeartbeats 4000000 in
theorem sp_X11_decide (G : kG9) {d : Nat} (hd : 5 ≤ d) (σ : St) (r1 : 0 ≤ (gi σ 31 13).toInt ∧ (gi σ 31 13).toInt ≤ 3000) (r2 : 0 ≤ (gi σ 41 15).toInt ∧ (gi σ 41 15).toInt ≤ 1100) : Ct G M_X11_decide d [.ref 0] σ (fun r σ' => ∃ x : Int32, r = some (.int x) ∧ Fm [31, 32, 33, 34, 35, 36, 37, 38, 39, 40, 41, 42, 43, 44, 45] [] σ σ' ∧ (0 ≤ (gi σ' 31 13).toInt ∧ (gi σ' 31 13).toInt ≤ 3000) ∧ (0 ≤ (gi σ' 41 15).toInt ∧ (gi σ' 41 15).toInt ≤ 1100) ∧ True) := by
  refine wa_start (by decide) rfl (Nat.le_of_ble_eq_true rfl) (lv := [(0, .ref 0)]) rfl o_X11_decide_0 rfl ?_
  refine wa_aload_n (i := 0) rfl rfl ?_
  refine wa_getr ck_11 fl_11_16 ly_0 rf_0_1 ?_
  refine wa_getz ck_1 fl_11_122 ly_2 ?_
  refine wa_if_eq o_X11_decide_13 (by decide) (fun h1 => ?_) (fun h1 => ?_)
  · replace h1 := bI_f (b := (gb σ 2 8)) (rfl) h1
    refine wa_aload_n (i := 0) rfl rfl ?_
    refine wa_getr ck_11 fl_11_55 ly_0 rf_0_6 ?_
    refine wa_aload_n (i := 0) rfl rfl ?_
    refine wa_getr ck_11 fl_11_23 ly_0 rf_0_2 ?_
    refine wa_geti ck_2 fl_11_213 ly_7 ?_
    refine wa_Vi (d9 := d - 1) [.int _] [] (sp_X6_judge G (d := d - 1) (by omega) σ _ (by first | assumption | exact Or.inl rfl | exact Or.inr rfl | (((try simp only [vp_in_iff, Int32.lt_iff_toInt_lt, Int32.le_iff_toInt_le, ← Int32.toInt_inj, Int32.reduceToInt, n_1, n_2, n_8, Int32.toNatClampNeg, Int64.lt_iff_toInt_lt, Int64.le_iff_toInt_le, ← Int64.toInt_inj, Int64.reduceToInt, Int32.toInt_toInt64, lg_cmp_ge, lg_cmp_le, lg_cmp_gt, lg_cmp_lt, lg_cmp_eq, Bool.false_eq_true, Bool.true_eq_false, reduceCtorEq, false_iff, true_iff, iff_true, iff_false, and_true, true_and, and_false, false_and, reduceIte, ite_true, ite_false, eq_self] at *)) <;> omega))) (rfl) rfl rfl (zr (by omega)) mk_X6_judge ly_31 ml_11_298 (Nat.le_of_ble_eq_true rfl) (fun x3 s2 hs2 => ?_)
    obtain ⟨bx3, ex3, fs2, cx3_1, -⟩ := pB hs2
    subst ex3
    have Fs2 : Fm [31, 32, 33, 34, 35, 36, 37, 38, 39, 40, 41, 42, 43, 44, 45] [] σ s2 := Fm.tr (Fm.rf [31, 32, 33, 34, 35, 36, 37, 38, 39, 40, 41, 42, 43, 44, 45] [] σ) (Fm.wd fs2 rfl rfl)
    refine wa_if_ne o_X11_decide_33 (by decide) (fun h4 => ?_) (fun h4 => ?_)
    · replace h4 := bI_t (b := bx3) (rfl) h4
      refine wa_aload_n (i := 0) rfl rfl ?_
      refine wa_getr ck_11 fl_11_64 ly_0 rf_0_7 ?_
      refine wa_aload_n (i := 0) rfl rfl ?_
      refine wa_getr ck_11 fl_11_23 ly_0 rf_0_2 ?_
      refine wa_geti ck_2 fl_11_213 ly_7 ?_
      refine wa_rw (Sm.gi fs2 13 (Or.inl (by decide))) ?_
      refine wa_iconst (v := 0) (by decide) ?_
      refine wa_Vi (d9 := d - 1) [.int _, .int _] [] (sp_X0_tellLeast G (d := d - 1) (by omega) s2 _ _ (by first | assumption | exact Or.inl rfl | exact Or.inr rfl | (((try simp only [vp_in_iff, Int32.lt_iff_toInt_lt, Int32.le_iff_toInt_le, ← Int32.toInt_inj, Int32.reduceToInt, n_1, n_2, n_8, Int32.toNatClampNeg, Int64.lt_iff_toInt_lt, Int64.le_iff_toInt_le, ← Int64.toInt_inj, Int64.reduceToInt, Int32.toInt_toInt64, lg_cmp_ge, lg_cmp_le, lg_cmp_gt, lg_cmp_lt, lg_cmp_eq, Bool.false_eq_true, Bool.true_eq_false, reduceCtorEq, false_iff, true_iff, iff_true, iff_false, and_true, true_and, and_false, false_and, reduceIte, ite_true, ite_false, eq_self] at *)) <;> omega)) (by rw [Sm.gi fs2 15 (Or.inr (by decide))]; first | assumption | exact Or.inl rfl | exact Or.inr rfl | (((try simp only [vp_in_iff, Int32.lt_iff_toInt_lt, Int32.le_iff_toInt_le, ← Int32.toInt_inj, Int32.reduceToInt, n_1, n_2, n_8, Int32.toNatClampNeg, Int64.lt_iff_toInt_lt, Int64.le_iff_toInt_le, ← Int64.toInt_inj, Int64.reduceToInt, Int32.toInt_toInt64, lg_cmp_ge, lg_cmp_le, lg_cmp_gt, lg_cmp_lt, lg_cmp_eq, Bool.false_eq_true, Bool.true_eq_false, reduceCtorEq, false_iff, true_iff, iff_true, iff_false, and_true, true_and, and_false, false_and, reduceIte, ite_true, ite_false, eq_self] at *)) <;> omega))) (rfl) rfl rfl (zr (by omega)) mk_X0_tellLeast ly_41 ml_11_301 (Nat.le_of_ble_eq_true rfl) (fun x6 s5 hs5 => ?_)
      obtain ⟨bx6, ex6, fs5, cx6_1, -⟩ := pB hs5
      subst ex6
      have Fs5 : Fm [31, 32, 33, 34, 35, 36, 37, 38, 39, 40, 41, 42, 43, 44, 45] [] σ s5 := Fm.tr Fs2 (Fm.wd fs5 rfl rfl)
      refine wa_if_eq o_X11_decide_55 (by decide) (fun h7 => ?_) (fun h7 => ?_)
      · replace h7 := bI_f (b := bx6) (rfl) h7
        refine wa_iconst (v := 0) (by decide) ?_
        refine wa_ireturn rfl rfl ?_
        exact ⟨_, rfl, Fs5, (by rw [Sm.gi fs5 13 (Or.inl (by decide))]; first | assumption | (((try simp only [vp_in_iff, Int32.lt_iff_toInt_lt, Int32.le_iff_toInt_le, ← Int32.toInt_inj, Int32.reduceToInt, n_1, n_2, n_8, Int32.toNatClampNeg, Int64.lt_iff_toInt_lt, Int64.le_iff_toInt_le, ← Int64.toInt_inj, Int64.reduceToInt, Int32.toInt_toInt64, lg_cmp_ge, lg_cmp_le, lg_cmp_gt, lg_cmp_lt, lg_cmp_eq, Bool.false_eq_true, Bool.true_eq_false, reduceCtorEq, false_iff, true_iff, iff_true, iff_false, and_true, true_and, and_false, false_and, reduceIte, ite_true, ite_false, eq_self] at *)) <;> omega)), (by first | assumption | (((try simp only [vp_in_iff, Int32.lt_iff_toInt_lt, Int32.le_iff_toInt_le, ← Int32.toInt_inj, Int32.reduceToInt, n_1, n_2, n_8, Int32.toNatClampNeg, Int64.lt_iff_toInt_lt, Int64.le_iff_toInt_le, ← Int64.toInt_inj, Int64.reduceToInt, Int32.toInt_toInt64, lg_cmp_ge, lg_cmp_le, lg_cmp_gt, lg_cmp_lt, lg_cmp_eq, Bool.false_eq_true, Bool.true_eq_false, reduceCtorEq, false_iff, true_iff, iff_true, iff_false, and_true, true_and, and_false, false_and, reduceIte, ite_true, ite_false, eq_self] at *)) <;> omega)), trivial⟩
      · replace h7 := bI_t (b := bx6) (rfl) h7
        refine wa_iconst (v := 1) (by decide) ?_
        refine wa_goto o_X11_decide_56 (by decide) ?_
        refine wa_ireturn rfl rfl ?_
        exact ⟨_, rfl, Fs5, (by rw [Sm.gi fs5 13 (Or.inl (by decide))]; first | assumption | (((try simp only [vp_in_iff, Int32.lt_iff_toInt_lt, Int32.le_iff_toInt_le, ← Int32.toInt_inj, Int32.reduceToInt, n_1, n_2, n_8, Int32.toNatClampNeg, Int64.lt_iff_toInt_lt, Int64.le_iff_toInt_le, ← Int64.toInt_inj, Int64.reduceToInt, Int32.toInt_toInt64, lg_cmp_ge, lg_cmp_le, lg_cmp_gt, lg_cmp_lt, lg_cmp_eq, Bool.false_eq_true, Bool.true_eq_false, reduceCtorEq, false_iff, true_iff, iff_true, iff_false, and_true, true_and, and_false, false_and, reduceIte, ite_true, ite_false, eq_self] at *)) <;> omega)), (by first | assumption | (((try simp only [vp_in_iff, Int32.lt_iff_toInt_lt, Int32.le_iff_toInt_le, ← Int32.toInt_inj, Int32.reduceToInt, n_1, n_2, n_8, Int32.toNatClampNeg, Int64.lt_iff_toInt_lt, Int64.le_iff_toInt_le, ← Int64.toInt_inj, Int64.reduceToInt, Int32.toInt_toInt64, lg_cmp_ge, lg_cmp_le, lg_cmp_gt, lg_cmp_lt, lg_cmp_eq, Bool.false_eq_true, Bool.true_eq_false, reduceCtorEq, false_iff, true_iff, iff_true, iff_false, and_true, true_and, and_false, false_and, reduceIte, ite_true, ite_false, eq_self] at *)) <;> omega)), trivial⟩
    · replace h4 := bI_f (b := bx3) (rfl) h4
      refine wa_bipush (v := (-107)) (by decide) ?_
      refine wa_ireturn rfl rfl ?_
      exact ⟨_, rfl, Fs2, (by first | assumption | (((try simp only [vp_in_iff, Int32.lt_iff_toInt_lt, Int32.le_iff_toInt_le, ← Int32.toInt_inj, Int32.reduceToInt, n_1, n_2, n_8, Int32.toNatClampNeg, Int64.lt_iff_toInt_lt, Int64.le_iff_toInt_le, ← Int64.toInt_inj, Int64.reduceToInt, Int32.toInt_toInt64, lg_cmp_ge, lg_cmp_le, lg_cmp_gt, lg_cmp_lt, lg_cmp_eq, Bool.false_eq_true, Bool.true_eq_false, reduceCtorEq, false_iff, true_iff, iff_true, iff_false, and_true, true_and, and_false, false_and, reduceIte, ite_true, ite_false, eq_self] at *)) <;> omega)), (by rw [Sm.gi fs2 15 (Or.inr (by decide))]; first | assumption | (((try simp only [vp_in_iff, Int32.lt_iff_toInt_lt, Int32.le_iff_toInt_le, ← Int32.toInt_inj, Int32.reduceToInt, n_1, n_2, n_8, Int32.toNatClampNeg, Int64.lt_iff_toInt_lt, Int64.le_iff_toInt_le, ← Int64.toInt_inj, Int64.reduceToInt, Int32.toInt_toInt64, lg_cmp_ge, lg_cmp_le, lg_cmp_gt, lg_cmp_lt, lg_cmp_eq, Bool.false_eq_true, Bool.true_eq_false, reduceCtorEq, false_iff, true_iff, iff_true, iff_false, and_true, true_and, and_false, false_and, reduceIte, ite_true, ite_false, eq_self] at *)) <;> omega)), trivial⟩
  · replace h1 := bI_t (b := (gb σ 2 8)) (rfl) h1
    refine wa_bipush (v := (-105)) (by decide) ?_
    refine wa_ireturn rfl rfl ?_
    exact ⟨_, rfl, (Fm.rf [31, 32, 33, 34, 35, 36, 37, 38, 39, 40, 41, 42, 43, 44, 45] [] σ), (by first | assumption | (((try simp only [vp_in_iff, Int32.lt_iff_toInt_lt, Int32.le_iff_toInt_le, ← Int32.toInt_inj, Int32.reduceToInt, n_1, n_2, n_8, Int32.toNatClampNeg, Int64.lt_iff_toInt_lt, Int64.le_iff_toInt_le, ← Int64.toInt_inj, Int64.reduceToInt, Int32.toInt_toInt64, lg_cmp_ge, lg_cmp_le, lg_cmp_gt, lg_cmp_lt, lg_cmp_eq, Bool.false_eq_true, Bool.true_eq_false, reduceCtorEq, false_iff, true_iff, iff_true, iff_false, and_true, true_and, and_false, false_and, reduceIte, ite_true, ite_false, eq_self] at *)) <;> omega)), (by first | assumption | (((try simp only [vp_in_iff, Int32.lt_iff_toInt_lt, Int32.le_iff_toInt_le, ← Int32.toInt_inj, Int32.reduceToInt, n_1, n_2, n_8, Int32.toNatClampNeg, Int64.lt_iff_toInt_lt, Int64.le_iff_toInt_le, ← Int64.toInt_inj, Int64.reduceToInt, Int32.toInt_toInt64, lg_cmp_ge, lg_cmp_le, lg_cmp_gt, lg_cmp_lt, lg_cmp_eq, Bool.false_eq_true, Bool.true_eq_false, reduceCtorEq, false_iff, true_iff, iff_true, iff_false, and_true, true_and, and_false, false_and, reduceIte, ite_true, ite_false, eq_self] at *)) <;> omega)), trivial⟩
set_option maxHeartbeats 4000000 in
theorem sp_X11_height (G : kG9) {d : Nat} (hd : 0 ≤ d) (σ : St) : Ct G M_X11_height d [.ref 0] σ (fun r σ' => ∃ x : Int32, r = some (.int x) ∧ σ = σ' ∧ True) := by
  refine wa_start (by decide) rfl (Nat.le_of_ble_eq_true rfl) (lv := [(0, .ref 0)]) rfl o_X11_height_0 rfl ?_
  refine wa_aload_n (i := 0) rfl rfl ?_
  refine wa_getr ck_11 fl_11_64 ly_0 rf_0_7 ?_
  refine wa_geti ck_0 fl_11_318 ly_41 ?_
  refine wa_ireturn rfl rfl ?_
  exact ⟨_, rfl, rfl, trivial⟩
set_option maxHeartbeats 4000000 in
theorem sp_X11_number (G : kG9) {d : Nat} (hd : 0 ≤ d) (σ : St) : Ct G M_X11_number d [.ref 0] σ (fun r σ' => ∃ x : Int64, r = some (.long x) ∧ σ = σ' ∧ True) := by
  refine wa_start (by decide) rfl (Nat.le_of_ble_eq_true rfl) (lv := [(0, .ref 0)]) rfl o_X11_number_0 rfl ?_
  refine wa_aload_n (i := 0) rfl rfl ?_
  refine wa_getr ck_11 fl_11_64 ly_0 rf_0_7 ?_
  refine wa_getl ck_0 fl_11_335 ly_41 ?_
  refine wa_lreturn rfl rfl ?_
  exact ⟨_, rfl, rfl, trivial⟩
set_option maxHeartbeats 4000000 in
theorem sp_X11_many (G : kG9) {d : Nat} (hd : 5 ≤ d) (σ : St) (r1 : 0 ≤ (gi σ 31 13).toInt ∧ (gi σ 31 13).toInt ≤ 3000) : Ct G M_X11_many d [.ref 0] σ (fun r σ' => ∃ x : Int32, r = some (.int x) ∧ Fm [31, 32, 33, 34, 35, 36, 37, 38, 39, 40, 44, 45, 46, 47, 48] [] σ σ' ∧ (0 ≤ (gi σ' 31 13).toInt ∧ (gi σ' 31 13).toInt ≤ 3000) ∧ True) := by
  refine wa_start (by decide) rfl (Nat.le_of_ble_eq_true rfl) (lv := [(0, .ref 0)]) rfl o_X11_many_0 rfl ?_
  refine wa_aload_n (i := 0) rfl rfl ?_
  refine wa_getr ck_11 fl_11_16 ly_0 rf_0_1 ?_
  refine wa_getz ck_1 fl_11_122 ly_2 ?_
  refine wa_if_eq o_X11_many_13 (by decide) (fun h1 => ?_) (fun h1 => ?_)
  · replace h1 := bI_f (b := (gb σ 2 8)) (rfl) h1
    refine wa_aload_n (i := 0) rfl rfl ?_
    refine wa_getr ck_11 fl_11_55 ly_0 rf_0_6 ?_
    refine wa_aload_n (i := 0) rfl rfl ?_
    refine wa_getr ck_11 fl_11_23 ly_0 rf_0_2 ?_
    refine wa_geti ck_2 fl_11_213 ly_7 ?_
    refine wa_Vi (d9 := d - 1) [.int _] [] (sp_X6_judge G (d := d - 1) (by omega) σ _ (by first | assumption | exact Or.inl rfl | exact Or.inr rfl | (((try simp only [vp_in_iff, Int32.lt_iff_toInt_lt, Int32.le_iff_toInt_le, ← Int32.toInt_inj, Int32.reduceToInt, n_1, n_2, n_8, Int32.toNatClampNeg, Int64.lt_iff_toInt_lt, Int64.le_iff_toInt_le, ← Int64.toInt_inj, Int64.reduceToInt, Int32.toInt_toInt64, lg_cmp_ge, lg_cmp_le, lg_cmp_gt, lg_cmp_lt, lg_cmp_eq, Bool.false_eq_true, Bool.true_eq_false, reduceCtorEq, false_iff, true_iff, iff_true, iff_false, and_true, true_and, and_false, false_and, reduceIte, ite_true, ite_false, eq_self] at *)) <;> omega))) (rfl) rfl rfl (zr (by omega)) mk_X6_judge ly_31 ml_11_298 (Nat.le_of_ble_eq_true rfl) (fun x3 s2 hs2 => ?_)
    obtain ⟨bx3, ex3, fs2, cx3_1, -⟩ := pB hs2
    subst ex3
    have Fs2 : Fm [31, 32, 33, 34, 35, 36, 37, 38, 39, 40, 44, 45, 46, 47, 48] [] σ s2 := Fm.tr (Fm.rf [31, 32, 33, 34, 35, 36, 37, 38, 39, 40, 44, 45, 46, 47, 48] [] σ) (Fm.wd fs2 rfl rfl)
    refine wa_if_eq o_X11_many_47 (by decide) (fun h4 => ?_) (fun h4 => ?_)
    · replace h4 := bI_f (b := bx3) (rfl) h4
      refine wa_bipush (v := (-107)) (by decide) ?_
      refine wa_ireturn rfl rfl ?_
      exact ⟨_, rfl, Fs2, (by first | assumption | (((try simp only [vp_in_iff, Int32.lt_iff_toInt_lt, Int32.le_iff_toInt_le, ← Int32.toInt_inj, Int32.reduceToInt, n_1, n_2, n_8, Int32.toNatClampNeg, Int64.lt_iff_toInt_lt, Int64.le_iff_toInt_le, ← Int64.toInt_inj, Int64.reduceToInt, Int32.toInt_toInt64, lg_cmp_ge, lg_cmp_le, lg_cmp_gt, lg_cmp_lt, lg_cmp_eq, Bool.false_eq_true, Bool.true_eq_false, reduceCtorEq, false_iff, true_iff, iff_true, iff_false, and_true, true_and, and_false, false_and, reduceIte, ite_true, ite_false, eq_self] at *)) <;> omega)), trivial⟩
    · replace h4 := bI_t (b := bx3) (rfl) h4
      refine wa_aload_n (i := 0) rfl rfl ?_
      refine wa_getr ck_11 fl_11_64 ly_0 rf_0_7 ?_
      refine wa_aload_n (i := 0) rfl rfl ?_
      refine wa_getr ck_11 fl_11_23 ly_0 rf_0_2 ?_
      refine wa_geti ck_2 fl_11_213 ly_7 ?_
      refine wa_rw (Sm.gi fs2 13 (Or.inl (by decide))) ?_
      refine wa_Vi (d9 := d - 1) [.int _] [] (sp_X0_howMany G (d := d - 1) (by omega) s2 _ (by first | assumption | exact Or.inl rfl | exact Or.inr rfl | (((try simp only [vp_in_iff, Int32.lt_iff_toInt_lt, Int32.le_iff_toInt_le, ← Int32.toInt_inj, Int32.reduceToInt, n_1, n_2, n_8, Int32.toNatClampNeg, Int64.lt_iff_toInt_lt, Int64.le_iff_toInt_le, ← Int64.toInt_inj, Int64.reduceToInt, Int32.toInt_toInt64, lg_cmp_ge, lg_cmp_le, lg_cmp_gt, lg_cmp_lt, lg_cmp_eq, Bool.false_eq_true, Bool.true_eq_false, reduceCtorEq, false_iff, true_iff, iff_true, iff_false, and_true, true_and, and_false, false_and, reduceIte, ite_true, ite_false, eq_self] at *)) <;> omega))) (rfl) rfl rfl (zr (by omega)) mk_X0_howMany ly_41 ml_11_339 (Nat.le_of_ble_eq_true rfl) (fun x6 s5 hs5 => ?_)
      obtain ⟨fs5, -⟩ := pI hs5
      have Fs5 : Fm [31, 32, 33, 34, 35, 36, 37, 38, 39, 40, 44, 45, 46, 47, 48] [] σ s5 := Fm.tr Fs2 (Fm.wd fs5 rfl rfl)
      refine wa_goto o_X11_many_49 (by decide) ?_
      refine wa_ireturn rfl rfl ?_
      exact ⟨_, rfl, Fs5, (by rw [Sm.gi fs5 13 (Or.inl (by decide))]; first | assumption | (((try simp only [vp_in_iff, Int32.lt_iff_toInt_lt, Int32.le_iff_toInt_le, ← Int32.toInt_inj, Int32.reduceToInt, n_1, n_2, n_8, Int32.toNatClampNeg, Int64.lt_iff_toInt_lt, Int64.le_iff_toInt_le, ← Int64.toInt_inj, Int64.reduceToInt, Int32.toInt_toInt64, lg_cmp_ge, lg_cmp_le, lg_cmp_gt, lg_cmp_lt, lg_cmp_eq, Bool.false_eq_true, Bool.true_eq_false, reduceCtorEq, false_iff, true_iff, iff_true, iff_false, and_true, true_and, and_false, false_and, reduceIte, ite_true, ite_false, eq_self] at *)) <;> omega)), trivial⟩
  · replace h1 := bI_t (b := (gb σ 2 8)) (rfl) h1
    refine wa_bipush (v := (-105)) (by decide) ?_
    refine wa_ireturn rfl rfl ?_
    exact ⟨_, rfl, (Fm.rf [31, 32, 33, 34, 35, 36, 37, 38, 39, 40, 44, 45, 46, 47, 48] [] σ), (by first | assumption | (((try simp only [vp_in_iff, Int32.lt_iff_toInt_lt, Int32.le_iff_toInt_le, ← Int32.toInt_inj, Int32.reduceToInt, n_1, n_2, n_8, Int32.toNatClampNeg, Int64.lt_iff_toInt_lt, Int64.le_iff_toInt_le, ← Int64.toInt_inj, Int64.reduceToInt, Int32.toInt_toInt64, lg_cmp_ge, lg_cmp_le, lg_cmp_gt, lg_cmp_lt, lg_cmp_eq, Bool.false_eq_true, Bool.true_eq_false, reduceCtorEq, false_iff, true_iff, iff_true, iff_false, and_true, true_and, and_false, false_and, reduceIte, ite_true, ite_false, eq_self] at *)) <;> omega)), trivial⟩
set_option maxHeartbeats 4000000 in
theorem sp_X11_core (G : kG9) {d : Nat} (hd : 5 ≤ d) (σ : St) (r1 : 0 ≤ (gi σ 31 13).toInt ∧ (gi σ 31 13).toInt ≤ 3000) (r2 : 0 ≤ (gi σ 41 15).toInt ∧ (gi σ 41 15).toInt ≤ 1100) : Ct G M_X11_core d [.ref 0] σ (fun r σ' => ∃ x : Int32, r = some (.int x) ∧ Fm [31, 32, 33, 34, 35, 36, 37, 38, 39, 40, 41, 42, 43, 44, 45, 46, 47, 48, 49] [] σ σ' ∧ (0 ≤ (gi σ' 31 13).toInt ∧ (gi σ' 31 13).toInt ≤ 3000) ∧ (0 ≤ (gi σ' 41 15).toInt ∧ (gi σ' 41 15).toInt ≤ 1100) ∧ True) := by
  refine wa_start (by decide) rfl (Nat.le_of_ble_eq_true rfl) (lv := [(0, .ref 0)]) rfl o_X11_core_0 rfl ?_
  refine wa_aload_n (i := 0) rfl rfl ?_
  refine wa_getr ck_11 fl_11_16 ly_0 rf_0_1 ?_
  refine wa_getz ck_1 fl_11_122 ly_2 ?_
  refine wa_if_eq o_X11_core_13 (by decide) (fun h1 => ?_) (fun h1 => ?_)
  · replace h1 := bI_f (b := (gb σ 2 8)) (rfl) h1
    refine wa_aload_n (i := 0) rfl rfl ?_
    refine wa_getr ck_11 fl_11_55 ly_0 rf_0_6 ?_
    refine wa_aload_n (i := 0) rfl rfl ?_
    refine wa_getr ck_11 fl_11_23 ly_0 rf_0_2 ?_
    refine wa_geti ck_2 fl_11_213 ly_7 ?_
    refine wa_Vi (d9 := d - 1) [.int _] [] (sp_X6_judge G (d := d - 1) (by omega) σ _ (by first | assumption | exact Or.inl rfl | exact Or.inr rfl | (((try simp only [vp_in_iff, Int32.lt_iff_toInt_lt, Int32.le_iff_toInt_le, ← Int32.toInt_inj, Int32.reduceToInt, n_1, n_2, n_8, Int32.toNatClampNeg, Int64.lt_iff_toInt_lt, Int64.le_iff_toInt_le, ← Int64.toInt_inj, Int64.reduceToInt, Int32.toInt_toInt64, lg_cmp_ge, lg_cmp_le, lg_cmp_gt, lg_cmp_lt, lg_cmp_eq, Bool.false_eq_true, Bool.true_eq_false, reduceCtorEq, false_iff, true_iff, iff_true, iff_false, and_true, true_and, and_false, false_and, reduceIte, ite_true, ite_false, eq_self] at *)) <;> omega))) (rfl) rfl rfl (zr (by omega)) mk_X6_judge ly_31 ml_11_298 (Nat.le_of_ble_eq_true rfl) (fun x3 s2 hs2 => ?_)
    obtain ⟨bx3, ex3, fs2, cx3_1, -⟩ := pB hs2
    subst ex3
    have Fs2 : Fm [31, 32, 33, 34, 35, 36, 37, 38, 39, 40, 41, 42, 43, 44, 45, 46, 47, 48, 49] [] σ s2 := Fm.tr (Fm.rf [31, 32, 33, 34, 35, 36, 37, 38, 39, 40, 41, 42, 43, 44, 45, 46, 47, 48, 49] [] σ) (Fm.wd fs2 rfl rfl)
    refine wa_if_eq o_X11_core_47 (by decide) (fun h4 => ?_) (fun h4 => ?_)
    · replace h4 := bI_f (b := bx3) (rfl) h4
      refine wa_bipush (v := (-107)) (by decide) ?_
      refine wa_ireturn rfl rfl ?_
      exact ⟨_, rfl, Fs2, (by first | assumption | (((try simp only [vp_in_iff, Int32.lt_iff_toInt_lt, Int32.le_iff_toInt_le, ← Int32.toInt_inj, Int32.reduceToInt, n_1, n_2, n_8, Int32.toNatClampNeg, Int64.lt_iff_toInt_lt, Int64.le_iff_toInt_le, ← Int64.toInt_inj, Int64.reduceToInt, Int32.toInt_toInt64, lg_cmp_ge, lg_cmp_le, lg_cmp_gt, lg_cmp_lt, lg_cmp_eq, Bool.false_eq_true, Bool.true_eq_false, reduceCtorEq, false_iff, true_iff, iff_true, iff_false, and_true, true_and, and_false, false_and, reduceIte, ite_true, ite_false, eq_self] at *)) <;> omega)), (by rw [Sm.gi fs2 15 (Or.inr (by decide))]; first | assumption | (((try simp only [vp_in_iff, Int32.lt_iff_toInt_lt, Int32.le_iff_toInt_le, ← Int32.toInt_inj, Int32.reduceToInt, n_1, n_2, n_8, Int32.toNatClampNeg, Int64.lt_iff_toInt_lt, Int64.le_iff_toInt_le, ← Int64.toInt_inj, Int64.reduceToInt, Int32.toInt_toInt64, lg_cmp_ge, lg_cmp_le, lg_cmp_gt, lg_cmp_lt, lg_cmp_eq, Bool.false_eq_true, Bool.true_eq_false, reduceCtorEq, false_iff, true_iff, iff_true, iff_false, and_true, true_and, and_false, false_and, reduceIte, ite_true, ite_false, eq_self] at *)) <;> omega)), trivial⟩
    · replace h4 := bI_t (b := bx3) (rfl) h4
      refine wa_aload_n (i := 0) rfl rfl ?_
      refine wa_getr ck_11 fl_11_64 ly_0 rf_0_7 ?_
      refine wa_aload_n (i := 0) rfl rfl ?_
      refine wa_getr ck_11 fl_11_23 ly_0 rf_0_2 ?_
      refine wa_geti ck_2 fl_11_213 ly_7 ?_
      refine wa_rw (Sm.gi fs2 13 (Or.inl (by decide))) ?_
      refine wa_Vi (d9 := d - 1) [.int _] [] (sp_X0_tellCore G (d := d - 1) (by omega) s2 _ (by first | assumption | exact Or.inl rfl | exact Or.inr rfl | (((try simp only [vp_in_iff, Int32.lt_iff_toInt_lt, Int32.le_iff_toInt_le, ← Int32.toInt_inj, Int32.reduceToInt, n_1, n_2, n_8, Int32.toNatClampNeg, Int64.lt_iff_toInt_lt, Int64.le_iff_toInt_le, ← Int64.toInt_inj, Int64.reduceToInt, Int32.toInt_toInt64, lg_cmp_ge, lg_cmp_le, lg_cmp_gt, lg_cmp_lt, lg_cmp_eq, Bool.false_eq_true, Bool.true_eq_false, reduceCtorEq, false_iff, true_iff, iff_true, iff_false, and_true, true_and, and_false, false_and, reduceIte, ite_true, ite_false, eq_self] at *)) <;> omega)) (by rw [Sm.gi fs2 15 (Or.inr (by decide))]; first | assumption | exact Or.inl rfl | exact Or.inr rfl | (((try simp only [vp_in_iff, Int32.lt_iff_toInt_lt, Int32.le_iff_toInt_le, ← Int32.toInt_inj, Int32.reduceToInt, n_1, n_2, n_8, Int32.toNatClampNeg, Int64.lt_iff_toInt_lt, Int64.le_iff_toInt_le, ← Int64.toInt_inj, Int64.reduceToInt, Int32.toInt_toInt64, lg_cmp_ge, lg_cmp_le, lg_cmp_gt, lg_cmp_lt, lg_cmp_eq, Bool.false_eq_true, Bool.true_eq_false, reduceCtorEq, false_iff, true_iff, iff_true, iff_false, and_true, true_and, and_false, false_and, reduceIte, ite_true, ite_false, eq_self] at *)) <;> omega))) (rfl) rfl rfl (zr (by omega)) mk_X0_tellCore ly_41 ml_11_342 (Nat.le_of_ble_eq_true rfl) (fun x6 s5 hs5 => ?_)
      obtain ⟨fs5, cx6_1, -⟩ := pI hs5
      have Fs5 : Fm [31, 32, 33, 34, 35, 36, 37, 38, 39, 40, 41, 42, 43, 44, 45, 46, 47, 48, 49] [] σ s5 := Fm.tr Fs2 (Fm.wd fs5 rfl rfl)
      refine wa_goto o_X11_core_49 (by decide) ?_
      refine wa_ireturn rfl rfl ?_
      exact ⟨_, rfl, Fs5, (by rw [Sm.gi fs5 13 (Or.inl (by decide))]; first | assumption | (((try simp only [vp_in_iff, Int32.lt_iff_toInt_lt, Int32.le_iff_toInt_le, ← Int32.toInt_inj, Int32.reduceToInt, n_1, n_2, n_8, Int32.toNatClampNeg, Int64.lt_iff_toInt_lt, Int64.le_iff_toInt_le, ← Int64.toInt_inj, Int64.reduceToInt, Int32.toInt_toInt64, lg_cmp_ge, lg_cmp_le, lg_cmp_gt, lg_cmp_lt, lg_cmp_eq, Bool.false_eq_true, Bool.true_eq_false, reduceCtorEq, false_iff, true_iff, iff_true, iff_false, and_true, true_and, and_false, false_and, reduceIte, ite_true, ite_false, eq_self] at *)) <;> omega)), (by first | assumption | (((try simp only [vp_in_iff, Int32.lt_iff_toInt_lt, Int32.le_iff_toInt_le, ← Int32.toInt_inj, Int32.reduceToInt, n_1, n_2, n_8, Int32.toNatClampNeg, Int64.lt_iff_toInt_lt, Int64.le_iff_toInt_le, ← Int64.toInt_inj, Int64.reduceToInt, Int32.toInt_toInt64, lg_cmp_ge, lg_cmp_le, lg_cmp_gt, lg_cmp_lt, lg_cmp_eq, Bool.false_eq_true, Bool.true_eq_false, reduceCtorEq, false_iff, true_iff, iff_true, iff_false, and_true, true_and, and_false, false_and, reduceIte, ite_true, ite_false, eq_self] at *)) <;> omega)), trivial⟩
  · replace h1 := bI_t (b := (gb σ 2 8)) (rfl) h1
    refine wa_bipush (v := (-105)) (by decide) ?_
    refine wa_ireturn rfl rfl ?_
    exact ⟨_, rfl, (Fm.rf [31, 32, 33, 34, 35, 36, 37, 38, 39, 40, 41, 42, 43, 44, 45, 46, 47, 48, 49] [] σ), (by first | assumption | (((try simp only [vp_in_iff, Int32.lt_iff_toInt_lt, Int32.le_iff_toInt_le, ← Int32.toInt_inj, Int32.reduceToInt, n_1, n_2, n_8, Int32.toNatClampNeg, Int64.lt_iff_toInt_lt, Int64.le_iff_toInt_le, ← Int64.toInt_inj, Int64.reduceToInt, Int32.toInt_toInt64, lg_cmp_ge, lg_cmp_le, lg_cmp_gt, lg_cmp_lt, lg_cmp_eq, Bool.false_eq_true, Bool.true_eq_false, reduceCtorEq, false_iff, true_iff, iff_true, iff_false, and_true, true_and, and_false, false_and, reduceIte, ite_true, ite_false, eq_self] at *)) <;> omega)), (by first | assumption | (((try simp only [vp_in_iff, Int32.lt_iff_toInt_lt, Int32.le_iff_toInt_le, ← Int32.toInt_inj, Int32.reduceToInt, n_1, n_2, n_8, Int32.toNatClampNeg, Int64.lt_iff_toInt_lt, Int64.le_iff_toInt_le, ← Int64.toInt_inj, Int64.reduceToInt, Int32.toInt_toInt64, lg_cmp_ge, lg_cmp_le, lg_cmp_gt, lg_cmp_lt, lg_cmp_eq, Bool.false_eq_true, Bool.true_eq_false, reduceCtorEq, false_iff, true_iff, iff_true, iff_false, and_true, true_and, and_false, false_and, reduceIte, ite_true, ite_false, eq_self] at *)) <;> omega)), trivial⟩
set_option maxHeartbeats 4000000 in
theorem sp_X11_inCore (G : kG9) {d : Nat} (hd : 1 ≤ d) (σ : St) (a0 : Int32) : Ct G M_X11_inCore d [.ref 0, .int a0] σ (fun r σ' => ∃ x : Int32, r = some (.int x) ∧ σ = σ' ∧ True) := by
  refine wa_start (by decide) rfl (Nat.le_of_ble_eq_true rfl) (lv := [(0, .ref 0), (1, .int a0)]) rfl o_X11_inCore_0 rfl ?_
  have ua0 := Int32.toInt_lt a0
  have wa0 := Int32.le_toInt a0
  refine wa_aload_n (i := 0) rfl rfl ?_
  refine wa_getr ck_11 fl_11_64 ly_0 rf_0_7 ?_
  refine wa_iload_n (i := 1) rfl rfl ?_
  refine wa_Vi (d9 := d - 1) [.int _] [] (sp_X0_toldInCore G (d := d - 1) (by omega) σ _) (rfl) rfl rfl (zr (by omega)) mk_X0_toldInCore ly_41 ml_11_345 (Nat.le_of_ble_eq_true rfl) (fun x2 s1 hs1 => ?_)
  obtain ⟨zs1, -⟩ := pI hs1
  subst zs1
  refine wa_ireturn rfl rfl ?_
  exact ⟨_, rfl, rfl, trivial⟩
set_option maxHeartbeats 4000000 in
theorem sp_X11_alike (G : kG9) {d : Nat} (hd : 5 ≤ d) (σ : St) (a0 : Int32) (a1 : Int32) (r1 : 0 ≤ (gi σ 31 13).toInt ∧ (gi σ 31 13).toInt ≤ 3000) : Ct G M_X11_alike d [.ref 0, .int a0, .int a1] σ (fun r σ' => ∃ x : Int32, r = some (.int x) ∧ Fm [31, 32, 33, 34, 35, 36, 37, 38, 39, 40] [] σ σ' ∧ (0 ≤ (gi σ' 31 13).toInt ∧ (gi σ' 31 13).toInt ≤ 3000) ∧ True) := by
  refine wa_start (by decide) rfl (Nat.le_of_ble_eq_true rfl) (lv := [(0, .ref 0), (1, .int a0), (2, .int a1)]) rfl o_X11_alike_0 rfl ?_
  have ua0 := Int32.toInt_lt a0
  have wa0 := Int32.le_toInt a0
  have ua1 := Int32.toInt_lt a1
  have wa1 := Int32.le_toInt a1
  refine wa_aload_n (i := 0) rfl rfl ?_
  refine wa_getr ck_11 fl_11_16 ly_0 rf_0_1 ?_
  refine wa_getz ck_1 fl_11_122 ly_2 ?_
  refine wa_if_eq o_X11_alike_13 (by decide) (fun h1 => ?_) (fun h1 => ?_)
  · replace h1 := bI_f (b := (gb σ 2 8)) (rfl) h1
    refine wa_aload_n (i := 0) rfl rfl ?_
    refine wa_getr ck_11 fl_11_23 ly_0 rf_0_2 ?_
    refine wa_iload_n (i := 1) rfl rfl ?_
    refine wa_Vi (d9 := d - 1) [.int _] [] (sp_X2_isClaim G (d := d - 1) (by omega) σ _) (rfl) rfl rfl (zr (by omega)) mk_X2_isClaim ly_7 ml_11_176 (Nat.le_of_ble_eq_true rfl) (fun x3 s2 hs2 => ?_)
    obtain ⟨bx3, ex3, zs2, -⟩ := pB hs2
    subst ex3
    subst zs2
    refine wa_if_eq o_X11_alike_35 (by decide) (fun h4 => ?_) (fun h4 => ?_)
    · replace h4 := bI_f (b := bx3) (rfl) h4
      refine wa_bipush (v := (-101)) (by decide) ?_
      refine wa_ireturn rfl rfl ?_
      exact ⟨_, rfl, (Fm.rf [31, 32, 33, 34, 35, 36, 37, 38, 39, 40] [] σ), (by first | assumption | (((try simp only [vp_in_iff, Int32.lt_iff_toInt_lt, Int32.le_iff_toInt_le, ← Int32.toInt_inj, Int32.reduceToInt, n_1, n_2, n_8, Int32.toNatClampNeg, Int64.lt_iff_toInt_lt, Int64.le_iff_toInt_le, ← Int64.toInt_inj, Int64.reduceToInt, Int32.toInt_toInt64, lg_cmp_ge, lg_cmp_le, lg_cmp_gt, lg_cmp_lt, lg_cmp_eq, Bool.false_eq_true, Bool.true_eq_false, reduceCtorEq, false_iff, true_iff, iff_true, iff_false, and_true, true_and, and_false, false_and, reduceIte, ite_true, ite_false, eq_self] at *)) <;> omega)), trivial⟩
    · replace h4 := bI_t (b := bx3) (rfl) h4
      refine wa_aload_n (i := 0) rfl rfl ?_
      refine wa_getr ck_11 fl_11_23 ly_0 rf_0_2 ?_
      refine wa_iload_n (i := 2) rfl rfl ?_
      refine wa_Vi (d9 := d - 1) [.int _] [] (sp_X2_isClaim G (d := d - 1) (by omega) σ _) (rfl) rfl rfl (zr (by omega)) mk_X2_isClaim ly_7 ml_11_176 (Nat.le_of_ble_eq_true rfl) (fun x6 s5 hs5 => ?_)
      obtain ⟨bx6, ex6, zs5, -⟩ := pB hs5
      subst ex6
      subst zs5
      refine wa_if_ne o_X11_alike_38 (by decide) (fun h7 => ?_) (fun h7 => ?_)
      · replace h7 := bI_t (b := bx6) (rfl) h7
        refine wa_aload_n (i := 0) rfl rfl ?_
        refine wa_getr ck_11 fl_11_55 ly_0 rf_0_6 ?_
        refine wa_iconst (v := 1) (by decide) ?_
        refine wa_iload_n (i := 1) rfl rfl ?_
        refine wa_ishl ?_
        refine wa_top (fun v8 hv8 => ?_)
        clear hv8
        refine wa_iconst (v := 1) (by decide) ?_
        refine wa_iload_n (i := 2) rfl rfl ?_
        refine wa_ishl ?_
        refine wa_top (fun v9 hv9 => ?_)
        clear hv9
        refine wa_ior ?_
        refine wa_top (fun v10 hv10 => ?_)
        clear hv10
        refine wa_Vi (d9 := d - 1) [.int _] [] (sp_X6_judge G (d := d - 1) (by omega) σ _ (by first | assumption | exact Or.inl rfl | exact Or.inr rfl | (((try simp only [vp_in_iff, Int32.lt_iff_toInt_lt, Int32.le_iff_toInt_le, ← Int32.toInt_inj, Int32.reduceToInt, n_1, n_2, n_8, Int32.toNatClampNeg, Int64.lt_iff_toInt_lt, Int64.le_iff_toInt_le, ← Int64.toInt_inj, Int64.reduceToInt, Int32.toInt_toInt64, lg_cmp_ge, lg_cmp_le, lg_cmp_gt, lg_cmp_lt, lg_cmp_eq, Bool.false_eq_true, Bool.true_eq_false, reduceCtorEq, false_iff, true_iff, iff_true, iff_false, and_true, true_and, and_false, false_and, reduceIte, ite_true, ite_false, eq_self] at *)) <;> omega))) (rfl) rfl rfl (zr (by omega)) mk_X6_judge ly_31 ml_11_298 (Nat.le_of_ble_eq_true rfl) (fun x12 s11 hs11 => ?_)
        obtain ⟨bx12, ex12, fs11, cx12_1, -⟩ := pB hs11
        subst ex12
        have Fs11 : Fm [31, 32, 33, 34, 35, 36, 37, 38, 39, 40] [] σ s11 := Fm.tr (Fm.rf [31, 32, 33, 34, 35, 36, 37, 38, 39, 40] [] σ) (Fm.wd fs11 rfl rfl)
        refine wa_if_ne o_X11_alike_58 (by decide) (fun h13 => ?_) (fun h13 => ?_)
        · replace h13 := bI_t (b := bx12) (rfl) h13
          refine wa_aload_n (i := 0) rfl rfl ?_
          refine wa_getr ck_11 fl_11_64 ly_0 rf_0_7 ?_
          refine wa_iload_n (i := 1) rfl rfl ?_
          refine wa_iload_n (i := 2) rfl rfl ?_
          refine wa_Vi (d9 := d - 1) [.int _, .int _] [] (sp_X0_areAlike G (d := d - 1) (by omega) s11 _ _ (by first | assumption | exact Or.inl rfl | exact Or.inr rfl | (((try simp only [vp_in_iff, Int32.lt_iff_toInt_lt, Int32.le_iff_toInt_le, ← Int32.toInt_inj, Int32.reduceToInt, n_1, n_2, n_8, Int32.toNatClampNeg, Int64.lt_iff_toInt_lt, Int64.le_iff_toInt_le, ← Int64.toInt_inj, Int64.reduceToInt, Int32.toInt_toInt64, lg_cmp_ge, lg_cmp_le, lg_cmp_gt, lg_cmp_lt, lg_cmp_eq, Bool.false_eq_true, Bool.true_eq_false, reduceCtorEq, false_iff, true_iff, iff_true, iff_false, and_true, true_and, and_false, false_and, reduceIte, ite_true, ite_false, eq_self] at *)) <;> omega))) (rfl) rfl rfl (zr (by omega)) mk_X0_areAlike ly_41 ml_11_348 (Nat.le_of_ble_eq_true rfl) (fun x15 s14 hs14 => ?_)
          obtain ⟨bx15, ex15, zs14, -⟩ := pB hs14
          subst ex15
          subst zs14
          refine wa_if_eq o_X11_alike_74 (by decide) (fun h16 => ?_) (fun h16 => ?_)
          · replace h16 := bI_f (b := bx15) (rfl) h16
            refine wa_iconst (v := 0) (by decide) ?_
            refine wa_ireturn rfl rfl ?_
            exact ⟨_, rfl, Fs11, (by first | assumption | (((try simp only [vp_in_iff, Int32.lt_iff_toInt_lt, Int32.le_iff_toInt_le, ← Int32.toInt_inj, Int32.reduceToInt, n_1, n_2, n_8, Int32.toNatClampNeg, Int64.lt_iff_toInt_lt, Int64.le_iff_toInt_le, ← Int64.toInt_inj, Int64.reduceToInt, Int32.toInt_toInt64, lg_cmp_ge, lg_cmp_le, lg_cmp_gt, lg_cmp_lt, lg_cmp_eq, Bool.false_eq_true, Bool.true_eq_false, reduceCtorEq, false_iff, true_iff, iff_true, iff_false, and_true, true_and, and_false, false_and, reduceIte, ite_true, ite_false, eq_self] at *)) <;> omega)), trivial⟩
          · replace h16 := bI_t (b := bx15) (rfl) h16
            refine wa_iconst (v := 1) (by decide) ?_
            refine wa_goto o_X11_alike_75 (by decide) ?_
            refine wa_ireturn rfl rfl ?_
            exact ⟨_, rfl, Fs11, (by first | assumption | (((try simp only [vp_in_iff, Int32.lt_iff_toInt_lt, Int32.le_iff_toInt_le, ← Int32.toInt_inj, Int32.reduceToInt, n_1, n_2, n_8, Int32.toNatClampNeg, Int64.lt_iff_toInt_lt, Int64.le_iff_toInt_le, ← Int64.toInt_inj, Int64.reduceToInt, Int32.toInt_toInt64, lg_cmp_ge, lg_cmp_le, lg_cmp_gt, lg_cmp_lt, lg_cmp_eq, Bool.false_eq_true, Bool.true_eq_false, reduceCtorEq, false_iff, true_iff, iff_true, iff_false, and_true, true_and, and_false, false_and, reduceIte, ite_true, ite_false, eq_self] at *)) <;> omega)), trivial⟩
        · replace h13 := bI_f (b := bx12) (rfl) h13
          refine wa_bipush (v := (-107)) (by decide) ?_
          refine wa_ireturn rfl rfl ?_
          exact ⟨_, rfl, Fs11, (by first | assumption | (((try simp only [vp_in_iff, Int32.lt_iff_toInt_lt, Int32.le_iff_toInt_le, ← Int32.toInt_inj, Int32.reduceToInt, n_1, n_2, n_8, Int32.toNatClampNeg, Int64.lt_iff_toInt_lt, Int64.le_iff_toInt_le, ← Int64.toInt_inj, Int64.reduceToInt, Int32.toInt_toInt64, lg_cmp_ge, lg_cmp_le, lg_cmp_gt, lg_cmp_lt, lg_cmp_eq, Bool.false_eq_true, Bool.true_eq_false, reduceCtorEq, false_iff, true_iff, iff_true, iff_false, and_true, true_and, and_false, false_and, reduceIte, ite_true, ite_false, eq_self] at *)) <;> omega)), trivial⟩
      · replace h7 := bI_f (b := bx6) (rfl) h7
        refine wa_bipush (v := (-101)) (by decide) ?_
        refine wa_ireturn rfl rfl ?_
        exact ⟨_, rfl, (Fm.rf [31, 32, 33, 34, 35, 36, 37, 38, 39, 40] [] σ), (by first | assumption | (((try simp only [vp_in_iff, Int32.lt_iff_toInt_lt, Int32.le_iff_toInt_le, ← Int32.toInt_inj, Int32.reduceToInt, n_1, n_2, n_8, Int32.toNatClampNeg, Int64.lt_iff_toInt_lt, Int64.le_iff_toInt_le, ← Int64.toInt_inj, Int64.reduceToInt, Int32.toInt_toInt64, lg_cmp_ge, lg_cmp_le, lg_cmp_gt, lg_cmp_lt, lg_cmp_eq, Bool.false_eq_true, Bool.true_eq_false, reduceCtorEq, false_iff, true_iff, iff_true, iff_false, and_true, true_and, and_false, false_and, reduceIte, ite_true, ite_false, eq_self] at *)) <;> omega)), trivial⟩
  · replace h1 := bI_t (b := (gb σ 2 8)) (rfl) h1
    refine wa_bipush (v := (-105)) (by decide) ?_
    refine wa_ireturn rfl rfl ?_
    exact ⟨_, rfl, (Fm.rf [31, 32, 33, 34, 35, 36, 37, 38, 39, 40] [] σ), (by first | assumption | (((try simp only [vp_in_iff, Int32.lt_iff_toInt_lt, Int32.le_iff_toInt_le, ← Int32.toInt_inj, Int32.reduceToInt, n_1, n_2, n_8, Int32.toNatClampNeg, Int64.lt_iff_toInt_lt, Int64.le_iff_toInt_le, ← Int64.toInt_inj, Int64.reduceToInt, Int32.toInt_toInt64, lg_cmp_ge, lg_cmp_le, lg_cmp_gt, lg_cmp_lt, lg_cmp_eq, Bool.false_eq_true, Bool.true_eq_false, reduceCtorEq, false_iff, true_iff, iff_true, iff_false, and_true, true_and, and_false, false_and, reduceIte, ite_true, ite_false, eq_self] at *)) <;> omega)), trivial⟩
set_option maxHeartbeats 4000000 in
theorem sp_X11_places (G : kG9) {d : Nat} (hd : 4 ≤ d) (σ : St) (r1 : 0 ≤ (gi σ 31 13).toInt ∧ (gi σ 31 13).toInt ≤ 3000) : Ct G M_X11_places d [.ref 0] σ (fun r σ' => ∃ x : Int32, r = some (.int x) ∧ Fm [31, 32, 33, 34, 35, 36, 37, 38, 39, 40] [] σ σ' ∧ (0 ≤ (gi σ' 31 13).toInt ∧ (gi σ' 31 13).toInt ≤ 3000) ∧ True) := by
  refine wa_start (by decide) rfl (Nat.le_of_ble_eq_true rfl) (lv := [(0, .ref 0)]) rfl o_X11_places_0 rfl ?_
  refine wa_aload_n (i := 0) rfl rfl ?_
  refine wa_getr ck_11 fl_11_16 ly_0 rf_0_1 ?_
  refine wa_getz ck_1 fl_11_122 ly_2 ?_
  refine wa_if_eq o_X11_places_13 (by decide) (fun h1 => ?_) (fun h1 => ?_)
  · replace h1 := bI_f (b := (gb σ 2 8)) (rfl) h1
    refine wa_aload_n (i := 0) rfl rfl ?_
    refine wa_getr ck_11 fl_11_55 ly_0 rf_0_6 ?_
    refine wa_aload_n (i := 0) rfl rfl ?_
    refine wa_getr ck_11 fl_11_23 ly_0 rf_0_2 ?_
    refine wa_geti ck_2 fl_11_213 ly_7 ?_
    refine wa_Vi (d9 := d - 1) [.int _] [] (sp_X6_explore G (d := d - 1) (by omega) σ _ (by first | assumption | exact Or.inl rfl | exact Or.inr rfl | (((try simp only [vp_in_iff, Int32.lt_iff_toInt_lt, Int32.le_iff_toInt_le, ← Int32.toInt_inj, Int32.reduceToInt, n_1, n_2, n_8, Int32.toNatClampNeg, Int64.lt_iff_toInt_lt, Int64.le_iff_toInt_le, ← Int64.toInt_inj, Int64.reduceToInt, Int32.toInt_toInt64, lg_cmp_ge, lg_cmp_le, lg_cmp_gt, lg_cmp_lt, lg_cmp_eq, Bool.false_eq_true, Bool.true_eq_false, reduceCtorEq, false_iff, true_iff, iff_true, iff_false, and_true, true_and, and_false, false_and, reduceIte, ite_true, ite_false, eq_self] at *)) <;> omega))) (rfl) rfl rfl (zr (by omega)) mk_X6_explore ly_31 ml_11_351 (Nat.le_of_ble_eq_true rfl) (fun x3 s2 hs2 => ?_)
    obtain ⟨bx3, ex3, fs2, cx3_1, -⟩ := pB hs2
    subst ex3
    have Fs2 : Fm [31, 32, 33, 34, 35, 36, 37, 38, 39, 40] [] σ s2 := Fm.tr (Fm.rf [31, 32, 33, 34, 35, 36, 37, 38, 39, 40] [] σ) (Fm.wd fs2 rfl rfl)
    refine wa_if_eq o_X11_places_40 (by decide) (fun h4 => ?_) (fun h4 => ?_)
    · replace h4 := bI_f (b := bx3) (rfl) h4
      refine wa_bipush (v := (-107)) (by decide) ?_
      refine wa_ireturn rfl rfl ?_
      exact ⟨_, rfl, Fs2, (by first | assumption | (((try simp only [vp_in_iff, Int32.lt_iff_toInt_lt, Int32.le_iff_toInt_le, ← Int32.toInt_inj, Int32.reduceToInt, n_1, n_2, n_8, Int32.toNatClampNeg, Int64.lt_iff_toInt_lt, Int64.le_iff_toInt_le, ← Int64.toInt_inj, Int64.reduceToInt, Int32.toInt_toInt64, lg_cmp_ge, lg_cmp_le, lg_cmp_gt, lg_cmp_lt, lg_cmp_eq, Bool.false_eq_true, Bool.true_eq_false, reduceCtorEq, false_iff, true_iff, iff_true, iff_false, and_true, true_and, and_false, false_and, reduceIte, ite_true, ite_false, eq_self] at *)) <;> omega)), trivial⟩
    · replace h4 := bI_t (b := bx3) (rfl) h4
      refine wa_aload_n (i := 0) rfl rfl ?_
      refine wa_getr ck_11 fl_11_55 ly_0 rf_0_6 ?_
      refine wa_geti ck_6 fl_11_354 ly_31 ?_
      refine wa_goto o_X11_places_42 (by decide) ?_
      refine wa_ireturn rfl rfl ?_
      exact ⟨_, rfl, Fs2, (by first | assumption | (((try simp only [vp_in_iff, Int32.lt_iff_toInt_lt, Int32.le_iff_toInt_le, ← Int32.toInt_inj, Int32.reduceToInt, n_1, n_2, n_8, Int32.toNatClampNeg, Int64.lt_iff_toInt_lt, Int64.le_iff_toInt_le, ← Int64.toInt_inj, Int64.reduceToInt, Int32.toInt_toInt64, lg_cmp_ge, lg_cmp_le, lg_cmp_gt, lg_cmp_lt, lg_cmp_eq, Bool.false_eq_true, Bool.true_eq_false, reduceCtorEq, false_iff, true_iff, iff_true, iff_false, and_true, true_and, and_false, false_and, reduceIte, ite_true, ite_false, eq_self] at *)) <;> omega)), trivial⟩
  · replace h1 := bI_t (b := (gb σ 2 8)) (rfl) h1
    refine wa_bipush (v := (-105)) (by decide) ?_
    refine wa_ireturn rfl rfl ?_
    exact ⟨_, rfl, (Fm.rf [31, 32, 33, 34, 35, 36, 37, 38, 39, 40] [] σ), (by first | assumption | (((try simp only [vp_in_iff, Int32.lt_iff_toInt_lt, Int32.le_iff_toInt_le, ← Int32.toInt_inj, Int32.reduceToInt, n_1, n_2, n_8, Int32.toNatClampNeg, Int64.lt_iff_toInt_lt, Int64.le_iff_toInt_le, ← Int64.toInt_inj, Int64.reduceToInt, Int32.toInt_toInt64, lg_cmp_ge, lg_cmp_le, lg_cmp_gt, lg_cmp_lt, lg_cmp_eq, Bool.false_eq_true, Bool.true_eq_false, reduceCtorEq, false_iff, true_iff, iff_true, iff_false, and_true, true_and, and_false, false_and, reduceIte, ite_true, ite_false, eq_self] at *)) <;> omega)), trivial⟩
set_option maxHeartbeats 4000000 in
theorem sp_X11_own (G : kG9) {d : Nat} (hd : 5 ≤ d) (σ : St) (a0 : Int32) (r1 : 0 ≤ (gi σ 31 13).toInt ∧ (gi σ 31 13).toInt ≤ 3000) : Ct G M_X11_own d [.ref 0, .int a0] σ (fun r σ' => ∃ x : Int32, r = some (.int x) ∧ Fm [31, 32, 33, 34, 35, 36, 37, 38, 39, 40, 51, 52, 53, 54, 55, 56, 57, 58, 59] [] σ σ' ∧ (0 ≤ (gi σ' 31 13).toInt ∧ (gi σ' 31 13).toInt ≤ 3000) ∧ True) := by
  refine wa_start (by decide) rfl (Nat.le_of_ble_eq_true rfl) (lv := [(0, .ref 0), (1, .int a0)]) rfl o_X11_own_0 rfl ?_
  have ua0 := Int32.toInt_lt a0
  have wa0 := Int32.le_toInt a0
  refine wa_aload_n (i := 0) rfl rfl ?_
  refine wa_getr ck_11 fl_11_16 ly_0 rf_0_1 ?_
  refine wa_getz ck_1 fl_11_122 ly_2 ?_
  refine wa_if_eq o_X11_own_13 (by decide) (fun h1 => ?_) (fun h1 => ?_)
  · replace h1 := bI_f (b := (gb σ 2 8)) (rfl) h1
    refine wa_aload_n (i := 0) rfl rfl ?_
    refine wa_getr ck_11 fl_11_23 ly_0 rf_0_2 ?_
    refine wa_iload_n (i := 1) rfl rfl ?_
    refine wa_Vi (d9 := d - 1) [.int _] [] (sp_X2_isClaim G (d := d - 1) (by omega) σ _) (rfl) rfl rfl (zr (by omega)) mk_X2_isClaim ly_7 ml_11_176 (Nat.le_of_ble_eq_true rfl) (fun x3 s2 hs2 => ?_)
    obtain ⟨bx3, ex3, zs2, -⟩ := pB hs2
    subst ex3
    subst zs2
    refine wa_if_ne o_X11_own_27 (by decide) (fun h4 => ?_) (fun h4 => ?_)
    · replace h4 := bI_t (b := bx3) (rfl) h4
      refine wa_aload_n (i := 0) rfl rfl ?_
      refine wa_getr ck_11 fl_11_55 ly_0 rf_0_6 ?_
      refine wa_iconst (v := 1) (by decide) ?_
      refine wa_iload_n (i := 1) rfl rfl ?_
      refine wa_ishl ?_
      refine wa_top (fun v5 hv5 => ?_)
      clear hv5
      refine wa_Vi (d9 := d - 1) [.int _] [] (sp_X6_judge G (d := d - 1) (by omega) σ _ (by first | assumption | exact Or.inl rfl | exact Or.inr rfl | (((try simp only [vp_in_iff, Int32.lt_iff_toInt_lt, Int32.le_iff_toInt_le, ← Int32.toInt_inj, Int32.reduceToInt, n_1, n_2, n_8, Int32.toNatClampNeg, Int64.lt_iff_toInt_lt, Int64.le_iff_toInt_le, ← Int64.toInt_inj, Int64.reduceToInt, Int32.toInt_toInt64, lg_cmp_ge, lg_cmp_le, lg_cmp_gt, lg_cmp_lt, lg_cmp_eq, Bool.false_eq_true, Bool.true_eq_false, reduceCtorEq, false_iff, true_iff, iff_true, iff_false, and_true, true_and, and_false, false_and, reduceIte, ite_true, ite_false, eq_self] at *)) <;> omega))) (rfl) rfl rfl (zr (by omega)) mk_X6_judge ly_31 ml_11_298 (Nat.le_of_ble_eq_true rfl) (fun x7 s6 hs6 => ?_)
      obtain ⟨bx7, ex7, fs6, cx7_1, -⟩ := pB hs6
      subst ex7
      have Fs6 : Fm [31, 32, 33, 34, 35, 36, 37, 38, 39, 40, 51, 52, 53, 54, 55, 56, 57, 58, 59] [] σ s6 := Fm.tr (Fm.rf [31, 32, 33, 34, 35, 36, 37, 38, 39, 40, 51, 52, 53, 54, 55, 56, 57, 58, 59] [] σ) (Fm.wd fs6 rfl rfl)
      refine wa_if_eq o_X11_own_51 (by decide) (fun h8 => ?_) (fun h8 => ?_)
      · replace h8 := bI_f (b := bx7) (rfl) h8
        refine wa_bipush (v := (-107)) (by decide) ?_
        refine wa_ireturn rfl rfl ?_
        exact ⟨_, rfl, Fs6, (by first | assumption | (((try simp only [vp_in_iff, Int32.lt_iff_toInt_lt, Int32.le_iff_toInt_le, ← Int32.toInt_inj, Int32.reduceToInt, n_1, n_2, n_8, Int32.toNatClampNeg, Int64.lt_iff_toInt_lt, Int64.le_iff_toInt_le, ← Int64.toInt_inj, Int64.reduceToInt, Int32.toInt_toInt64, lg_cmp_ge, lg_cmp_le, lg_cmp_gt, lg_cmp_lt, lg_cmp_eq, Bool.false_eq_true, Bool.true_eq_false, reduceCtorEq, false_iff, true_iff, iff_true, iff_false, and_true, true_and, and_false, false_and, reduceIte, ite_true, ite_false, eq_self] at *)) <;> omega)), trivial⟩
      · replace h8 := bI_t (b := bx7) (rfl) h8
        refine wa_aload_n (i := 0) rfl rfl ?_
        refine wa_getr ck_11 fl_11_73 ly_0 rf_0_8 ?_
        refine wa_iload_n (i := 1) rfl rfl ?_
        refine wa_Vi (d9 := d - 1) [.int _] [] (sp_X5_tell G (d := d - 1) (by omega) s6 _ (by first | assumption | exact Or.inl rfl | exact Or.inr rfl | (((try simp only [vp_in_iff, Int32.lt_iff_toInt_lt, Int32.le_iff_toInt_le, ← Int32.toInt_inj, Int32.reduceToInt, n_1, n_2, n_8, Int32.toNatClampNeg, Int64.lt_iff_toInt_lt, Int64.le_iff_toInt_le, ← Int64.toInt_inj, Int64.reduceToInt, Int32.toInt_toInt64, lg_cmp_ge, lg_cmp_le, lg_cmp_gt, lg_cmp_lt, lg_cmp_eq, Bool.false_eq_true, Bool.true_eq_false, reduceCtorEq, false_iff, true_iff, iff_true, iff_false, and_true, true_and, and_false, false_and, reduceIte, ite_true, ite_false, eq_self] at *)) <;> omega))) (rfl) rfl rfl (zr (by omega)) mk_X5_tell ly_51 ml_11_357 (Nat.le_of_ble_eq_true rfl) (fun x10 s9 hs9 => ?_)
        obtain ⟨fs9, -⟩ := pI hs9
        have Fs9 : Fm [31, 32, 33, 34, 35, 36, 37, 38, 39, 40, 51, 52, 53, 54, 55, 56, 57, 58, 59] [] σ s9 := Fm.tr Fs6 (Fm.wd fs9 rfl rfl)
        refine wa_goto o_X11_own_53 (by decide) ?_
        refine wa_ireturn rfl rfl ?_
        exact ⟨_, rfl, Fs9, (by rw [Sm.gi fs9 13 (Or.inl (by decide))]; first | assumption | (((try simp only [vp_in_iff, Int32.lt_iff_toInt_lt, Int32.le_iff_toInt_le, ← Int32.toInt_inj, Int32.reduceToInt, n_1, n_2, n_8, Int32.toNatClampNeg, Int64.lt_iff_toInt_lt, Int64.le_iff_toInt_le, ← Int64.toInt_inj, Int64.reduceToInt, Int32.toInt_toInt64, lg_cmp_ge, lg_cmp_le, lg_cmp_gt, lg_cmp_lt, lg_cmp_eq, Bool.false_eq_true, Bool.true_eq_false, reduceCtorEq, false_iff, true_iff, iff_true, iff_false, and_true, true_and, and_false, false_and, reduceIte, ite_true, ite_false, eq_self] at *)) <;> omega)), trivial⟩
    · replace h4 := bI_f (b := bx3) (rfl) h4
      refine wa_bipush (v := (-101)) (by decide) ?_
      refine wa_ireturn rfl rfl ?_
      exact ⟨_, rfl, (Fm.rf [31, 32, 33, 34, 35, 36, 37, 38, 39, 40, 51, 52, 53, 54, 55, 56, 57, 58, 59] [] σ), (by first | assumption | (((try simp only [vp_in_iff, Int32.lt_iff_toInt_lt, Int32.le_iff_toInt_le, ← Int32.toInt_inj, Int32.reduceToInt, n_1, n_2, n_8, Int32.toNatClampNeg, Int64.lt_iff_toInt_lt, Int64.le_iff_toInt_le, ← Int64.toInt_inj, Int64.reduceToInt, Int32.toInt_toInt64, lg_cmp_ge, lg_cmp_le, lg_cmp_gt, lg_cmp_lt, lg_cmp_eq, Bool.false_eq_true, Bool.true_eq_false, reduceCtorEq, false_iff, true_iff, iff_true, iff_false, and_true, true_and, and_false, false_and, reduceIte, ite_true, ite_false, eq_self] at *)) <;> omega)), trivial⟩
  · replace h1 := bI_t (b := (gb σ 2 8)) (rfl) h1
    refine wa_bipush (v := (-105)) (by decide) ?_
    refine wa_ireturn rfl rfl ?_
    exact ⟨_, rfl, (Fm.rf [31, 32, 33, 34, 35, 36, 37, 38, 39, 40, 51, 52, 53, 54, 55, 56, 57, 58, 59] [] σ), (by first | assumption | (((try simp only [vp_in_iff, Int32.lt_iff_toInt_lt, Int32.le_iff_toInt_le, ← Int32.toInt_inj, Int32.reduceToInt, n_1, n_2, n_8, Int32.toNatClampNeg, Int64.lt_iff_toInt_lt, Int64.le_iff_toInt_le, ← Int64.toInt_inj, Int64.reduceToInt, Int32.toInt_toInt64, lg_cmp_ge, lg_cmp_le, lg_cmp_gt, lg_cmp_lt, lg_cmp_eq, Bool.false_eq_true, Bool.true_eq_false, reduceCtorEq, false_iff, true_iff, iff_true, iff_false, and_true, true_and, and_false, false_and, reduceIte, ite_true, ite_false, eq_self] at *)) <;> omega)), trivial⟩
set_option maxHeartbeats 4000000 in
theorem sp_X11_prove (G : kG9) {d : Nat} (hd : 7 ≤ d) (σ : St) (r1 : 0 ≤ (gi σ 31 13).toInt ∧ (gi σ 31 13).toInt ≤ 3000) (r2 : 0 ≤ (gi σ 41 15).toInt ∧ (gi σ 41 15).toInt ≤ 1100) (r3 : 0 ≤ (gi σ 60 12).toInt ∧ (gi σ 60 12).toInt ≤ 4) : Ct G M_X11_prove d [.ref 0] σ (fun r σ' => ∃ x : Int32, r = some (.int x) ∧ Fm [0, 18, 19, 20, 21, 22, 23, 24, 25, 26, 27, 28, 29, 30, 31, 32, 33, 34, 35, 36, 37, 38, 39, 40, 41, 42, 43, 44, 45, 46, 47, 48, 49, 50, 51, 52, 53, 54, 55, 56, 57, 58, 59, 60, 61, 62, 63, 64, 65, 66, 67, 68, 69, 70, 71, 72, 73, 74, 75, 76, 77, 78, 79, 80, 81, 82, 83] [] σ σ' ∧ (0 ≤ (gi σ' 31 13).toInt ∧ (gi σ' 31 13).toInt ≤ 3000) ∧ (0 ≤ (gi σ' 41 15).toInt ∧ (gi σ' 41 15).toInt ≤ 1100) ∧ (0 ≤ (gi σ' 60 12).toInt ∧ (gi σ' 60 12).toInt ≤ 4) ∧ True) := by
  refine wa_start (by decide) rfl (Nat.le_of_ble_eq_true rfl) (lv := [(0, .ref 0)]) rfl o_X11_prove_0 rfl ?_
  refine wa_aload_n (i := 0) rfl rfl ?_
  refine wa_getr ck_11 fl_11_16 ly_0 rf_0_1 ?_
  refine wa_getz ck_1 fl_11_122 ly_2 ?_
  refine wa_if_eq o_X11_prove_13 (by decide) (fun h1 => ?_) (fun h1 => ?_)
  · replace h1 := bI_f (b := (gb σ 2 8)) (rfl) h1
    refine wa_aload_n (i := 0) rfl rfl ?_
    refine wa_getr ck_11 fl_11_98 ly_0 rf_0_11 ?_
    refine wa_aload_n (i := 0) rfl rfl ?_
    refine wa_getr ck_11 fl_11_9 ly_0 rf_0_0 ?_
    refine wa_aload_n (i := 0) rfl rfl ?_
    refine wa_Vi (d9 := d - 1) [] [.ref 1, .ref 75] (sp_X11_useTape G (d := d - 1) (by omega) σ ) (rfl) rfl rfl (zr (by omega)) mk_X11_useTape ly_0 ml_11_230 (Nat.le_of_ble_eq_true rfl) (fun x3 s2 hs2 => ?_)
    obtain ⟨fs2, -⟩ := pI hs2
    have Fs2 : Fm [0, 18, 19, 20, 21, 22, 23, 24, 25, 26, 27, 28, 29, 30, 31, 32, 33, 34, 35, 36, 37, 38, 39, 40, 41, 42, 43, 44, 45, 46, 47, 48, 49, 50, 51, 52, 53, 54, 55, 56, 57, 58, 59, 60, 61, 62, 63, 64, 65, 66, 67, 68, 69, 70, 71, 72, 73, 74, 75, 76, 77, 78, 79, 80, 81, 82, 83] [] σ s2 := Fm.tr (Fm.rf [0, 18, 19, 20, 21, 22, 23, 24, 25, 26, 27, 28, 29, 30, 31, 32, 33, 34, 35, 36, 37, 38, 39, 40, 41, 42, 43, 44, 45, 46, 47, 48, 49, 50, 51, 52, 53, 54, 55, 56, 57, 58, 59, 60, 61, 62, 63, 64, 65, 66, 67, 68, 69, 70, 71, 72, 73, 74, 75, 76, 77, 78, 79, 80, 81, 82, 83] [] σ) (Fm.wd fs2 rfl rfl)
    refine wa_Vi (d9 := d - 1) [.ref 1, .int _] [] (sp_X7_check G (d := d - 1) (by omega) s2 _ (by rw [Fm.gi fs2 (q := 31) (k := 13) rfl rfl]; first | assumption | exact Or.inl rfl | exact Or.inr rfl | (((try simp only [vp_in_iff, Int32.lt_iff_toInt_lt, Int32.le_iff_toInt_le, ← Int32.toInt_inj, Int32.reduceToInt, n_1, n_2, n_8, Int32.toNatClampNeg, Int64.lt_iff_toInt_lt, Int64.le_iff_toInt_le, ← Int64.toInt_inj, Int64.reduceToInt, Int32.toInt_toInt64, lg_cmp_ge, lg_cmp_le, lg_cmp_gt, lg_cmp_lt, lg_cmp_eq, Bool.false_eq_true, Bool.true_eq_false, reduceCtorEq, false_iff, true_iff, iff_true, iff_false, and_true, true_and, and_false, false_and, reduceIte, ite_true, ite_false, eq_self] at *)) <;> omega)) (by rw [Fm.gi fs2 (q := 41) (k := 15) rfl rfl]; first | assumption | exact Or.inl rfl | exact Or.inr rfl | (((try simp only [vp_in_iff, Int32.lt_iff_toInt_lt, Int32.le_iff_toInt_le, ← Int32.toInt_inj, Int32.reduceToInt, n_1, n_2, n_8, Int32.toNatClampNeg, Int64.lt_iff_toInt_lt, Int64.le_iff_toInt_le, ← Int64.toInt_inj, Int64.reduceToInt, Int32.toInt_toInt64, lg_cmp_ge, lg_cmp_le, lg_cmp_gt, lg_cmp_lt, lg_cmp_eq, Bool.false_eq_true, Bool.true_eq_false, reduceCtorEq, false_iff, true_iff, iff_true, iff_false, and_true, true_and, and_false, false_and, reduceIte, ite_true, ite_false, eq_self] at *)) <;> omega)) (by rw [Fm.gi fs2 (q := 60) (k := 12) rfl rfl]; first | assumption | exact Or.inl rfl | exact Or.inr rfl | (((try simp only [vp_in_iff, Int32.lt_iff_toInt_lt, Int32.le_iff_toInt_le, ← Int32.toInt_inj, Int32.reduceToInt, n_1, n_2, n_8, Int32.toNatClampNeg, Int64.lt_iff_toInt_lt, Int64.le_iff_toInt_le, ← Int64.toInt_inj, Int64.reduceToInt, Int32.toInt_toInt64, lg_cmp_ge, lg_cmp_le, lg_cmp_gt, lg_cmp_lt, lg_cmp_eq, Bool.false_eq_true, Bool.true_eq_false, reduceCtorEq, false_iff, true_iff, iff_true, iff_false, and_true, true_and, and_false, false_and, reduceIte, ite_true, ite_false, eq_self] at *)) <;> omega))) (rfl) rfl rfl (zr (by omega)) mk_X7_check ly_75 ml_11_395 (Nat.le_of_ble_eq_true rfl) (fun x5 s4 hs4 => ?_)
    obtain ⟨fs4, cx5_1, cx5_2, cx5_3, -⟩ := pI hs4
    have Fs4 : Fm [0, 18, 19, 20, 21, 22, 23, 24, 25, 26, 27, 28, 29, 30, 31, 32, 33, 34, 35, 36, 37, 38, 39, 40, 41, 42, 43, 44, 45, 46, 47, 48, 49, 50, 51, 52, 53, 54, 55, 56, 57, 58, 59, 60, 61, 62, 63, 64, 65, 66, 67, 68, 69, 70, 71, 72, 73, 74, 75, 76, 77, 78, 79, 80, 81, 82, 83] [] σ s4 := Fm.tr Fs2 (Fm.wd fs4 rfl rfl)
    refine wa_istore_nD (lv' := [(1, .int x5), (0, .ref 0)]) (i := 1) rfl (by decide) rfl ?_
    refine wa_iload_n (i := 1) rfl rfl ?_
    refine wa_iconst (v := (-1)) (by decide) ?_
    refine wa_icmp_ne o_X11_prove_57 (by decide) (fun h6 => ?_) (fun h6 => ?_)
    · refine wa_iload_n (i := 1) rfl rfl ?_
      refine wa_ireturn rfl rfl ?_
      exact ⟨_, rfl, Fs4, (by first | assumption | (((try simp only [vp_in_iff, Int32.lt_iff_toInt_lt, Int32.le_iff_toInt_le, ← Int32.toInt_inj, Int32.reduceToInt, n_1, n_2, n_8, Int32.toNatClampNeg, Int64.lt_iff_toInt_lt, Int64.le_iff_toInt_le, ← Int64.toInt_inj, Int64.reduceToInt, Int32.toInt_toInt64, lg_cmp_ge, lg_cmp_le, lg_cmp_gt, lg_cmp_lt, lg_cmp_eq, Bool.false_eq_true, Bool.true_eq_false, reduceCtorEq, false_iff, true_iff, iff_true, iff_false, and_true, true_and, and_false, false_and, reduceIte, ite_true, ite_false, eq_self] at *)) <;> omega)), (by first | assumption | (((try simp only [vp_in_iff, Int32.lt_iff_toInt_lt, Int32.le_iff_toInt_le, ← Int32.toInt_inj, Int32.reduceToInt, n_1, n_2, n_8, Int32.toNatClampNeg, Int64.lt_iff_toInt_lt, Int64.le_iff_toInt_le, ← Int64.toInt_inj, Int64.reduceToInt, Int32.toInt_toInt64, lg_cmp_ge, lg_cmp_le, lg_cmp_gt, lg_cmp_lt, lg_cmp_eq, Bool.false_eq_true, Bool.true_eq_false, reduceCtorEq, false_iff, true_iff, iff_true, iff_false, and_true, true_and, and_false, false_and, reduceIte, ite_true, ite_false, eq_self] at *)) <;> omega)), (by first | assumption | (((try simp only [vp_in_iff, Int32.lt_iff_toInt_lt, Int32.le_iff_toInt_le, ← Int32.toInt_inj, Int32.reduceToInt, n_1, n_2, n_8, Int32.toNatClampNeg, Int64.lt_iff_toInt_lt, Int64.le_iff_toInt_le, ← Int64.toInt_inj, Int64.reduceToInt, Int32.toInt_toInt64, lg_cmp_ge, lg_cmp_le, lg_cmp_gt, lg_cmp_lt, lg_cmp_eq, Bool.false_eq_true, Bool.true_eq_false, reduceCtorEq, false_iff, true_iff, iff_true, iff_false, and_true, true_and, and_false, false_and, reduceIte, ite_true, ite_false, eq_self] at *)) <;> omega)), trivial⟩
    · refine wa_aload_n (i := 0) rfl rfl ?_
      refine wa_aload_n (i := 0) rfl rfl ?_
      refine wa_getr ck_11 fl_11_98 ly_0 rf_0_11 ?_
      refine wa_geti ck_7 fl_11_398 ly_75 ?_
      refine wa_puti ck_11 fl_11_253 ly_0 (fun s7 hs7 => ?_)
      have Fs7 : Fm [0, 18, 19, 20, 21, 22, 23, 24, 25, 26, 27, 28, 29, 30, 31, 32, 33, 34, 35, 36, 37, 38, 39, 40, 41, 42, 43, 44, 45, 46, 47, 48, 49, 50, 51, 52, 53, 54, 55, 56, 57, 58, 59, 60, 61, 62, 63, 64, 65, 66, 67, 68, 69, 70, 71, 72, 73, 74, 75, 76, 77, 78, 79, 80, 81, 82, 83] [] σ s7 := by rw [hs7]; exact Fm.si Fs4 rfl
      refine wa_sipush (v := (-1000)) (by decide) ?_
      refine wa_aload_n (i := 0) rfl rfl ?_
      refine wa_getr ck_11 fl_11_98 ly_0 rf_0_11 ?_
      refine wa_geti ck_7 fl_11_399 ly_75 ?_
      refine wa_rw (nxq_gi_si hs7 (by decide)) ?_
      refine wa_isub ?_
      refine wa_top (fun v8 hv8 => ?_)
      have tv8 := i_subT hv8
      clear hv8
      refine wa_ireturn rfl rfl ?_
      exact ⟨_, rfl, Fs7, (by rw [nxq_gi_si hs7 (by decide)]; first | assumption | (((try simp only [vp_in_iff, Int32.lt_iff_toInt_lt, Int32.le_iff_toInt_le, ← Int32.toInt_inj, Int32.reduceToInt, n_1, n_2, n_8, Int32.toNatClampNeg, Int64.lt_iff_toInt_lt, Int64.le_iff_toInt_le, ← Int64.toInt_inj, Int64.reduceToInt, Int32.toInt_toInt64, lg_cmp_ge, lg_cmp_le, lg_cmp_gt, lg_cmp_lt, lg_cmp_eq, Bool.false_eq_true, Bool.true_eq_false, reduceCtorEq, false_iff, true_iff, iff_true, iff_false, and_true, true_and, and_false, false_and, reduceIte, ite_true, ite_false, eq_self] at *)) <;> omega)), (by rw [nxq_gi_si hs7 (by decide)]; first | assumption | (((try simp only [vp_in_iff, Int32.lt_iff_toInt_lt, Int32.le_iff_toInt_le, ← Int32.toInt_inj, Int32.reduceToInt, n_1, n_2, n_8, Int32.toNatClampNeg, Int64.lt_iff_toInt_lt, Int64.le_iff_toInt_le, ← Int64.toInt_inj, Int64.reduceToInt, Int32.toInt_toInt64, lg_cmp_ge, lg_cmp_le, lg_cmp_gt, lg_cmp_lt, lg_cmp_eq, Bool.false_eq_true, Bool.true_eq_false, reduceCtorEq, false_iff, true_iff, iff_true, iff_false, and_true, true_and, and_false, false_and, reduceIte, ite_true, ite_false, eq_self] at *)) <;> omega)), (by rw [nxq_gi_si hs7 (by decide)]; first | assumption | (((try simp only [vp_in_iff, Int32.lt_iff_toInt_lt, Int32.le_iff_toInt_le, ← Int32.toInt_inj, Int32.reduceToInt, n_1, n_2, n_8, Int32.toNatClampNeg, Int64.lt_iff_toInt_lt, Int64.le_iff_toInt_le, ← Int64.toInt_inj, Int64.reduceToInt, Int32.toInt_toInt64, lg_cmp_ge, lg_cmp_le, lg_cmp_gt, lg_cmp_lt, lg_cmp_eq, Bool.false_eq_true, Bool.true_eq_false, reduceCtorEq, false_iff, true_iff, iff_true, iff_false, and_true, true_and, and_false, false_and, reduceIte, ite_true, ite_false, eq_self] at *)) <;> omega)), trivial⟩
  · replace h1 := bI_t (b := (gb σ 2 8)) (rfl) h1
    refine wa_bipush (v := (-105)) (by decide) ?_
    refine wa_ireturn rfl rfl ?_
    exact ⟨_, rfl, (Fm.rf [0, 18, 19, 20, 21, 22, 23, 24, 25, 26, 27, 28, 29, 30, 31, 32, 33, 34, 35, 36, 37, 38, 39, 40, 41, 42, 43, 44, 45, 46, 47, 48, 49, 50, 51, 52, 53, 54, 55, 56, 57, 58, 59, 60, 61, 62, 63, 64, 65, 66, 67, 68, 69, 70, 71, 72, 73, 74, 75, 76, 77, 78, 79, 80, 81, 82, 83] [] σ), (by first | assumption | (((try simp only [vp_in_iff, Int32.lt_iff_toInt_lt, Int32.le_iff_toInt_le, ← Int32.toInt_inj, Int32.reduceToInt, n_1, n_2, n_8, Int32.toNatClampNeg, Int64.lt_iff_toInt_lt, Int64.le_iff_toInt_le, ← Int64.toInt_inj, Int64.reduceToInt, Int32.toInt_toInt64, lg_cmp_ge, lg_cmp_le, lg_cmp_gt, lg_cmp_lt, lg_cmp_eq, Bool.false_eq_true, Bool.true_eq_false, reduceCtorEq, false_iff, true_iff, iff_true, iff_false, and_true, true_and, and_false, false_and, reduceIte, ite_true, ite_false, eq_self] at *)) <;> omega)), (by first | assumption | (((try simp only [vp_in_iff, Int32.lt_iff_toInt_lt, Int32.le_iff_toInt_le, ← Int32.toInt_inj, Int32.reduceToInt, n_1, n_2, n_8, Int32.toNatClampNeg, Int64.lt_iff_toInt_lt, Int64.le_iff_toInt_le, ← Int64.toInt_inj, Int64.reduceToInt, Int32.toInt_toInt64, lg_cmp_ge, lg_cmp_le, lg_cmp_gt, lg_cmp_lt, lg_cmp_eq, Bool.false_eq_true, Bool.true_eq_false, reduceCtorEq, false_iff, true_iff, iff_true, iff_false, and_true, true_and, and_false, false_and, reduceIte, ite_true, ite_false, eq_self] at *)) <;> omega)), (by first | assumption | (((try simp only [vp_in_iff, Int32.lt_iff_toInt_lt, Int32.le_iff_toInt_le, ← Int32.toInt_inj, Int32.reduceToInt, n_1, n_2, n_8, Int32.toNatClampNeg, Int64.lt_iff_toInt_lt, Int64.le_iff_toInt_le, ← Int64.toInt_inj, Int64.reduceToInt, Int32.toInt_toInt64, lg_cmp_ge, lg_cmp_le, lg_cmp_gt, lg_cmp_lt, lg_cmp_eq, Bool.false_eq_true, Bool.true_eq_false, reduceCtorEq, false_iff, true_iff, iff_true, iff_false, and_true, true_and, and_false, false_and, reduceIte, ite_true, ite_false, eq_self] at *)) <;> omega)), trivial⟩
set_option maxHeartbeats 4000000 in
theorem sp_X11_bound (G : kG9) {d : Nat} (hd : 3 ≤ d) (σ : St) (a0 : Int32) (r1 : 0 ≤ (gi σ 41 15).toInt ∧ (gi σ 41 15).toInt ≤ 1100) : Ct G M_X11_bound d [.ref 0, .int a0] σ (fun r σ' => ∃ x : Int32, r = some (.int x) ∧ Fm [41, 42, 43, 44, 45, 46, 47, 48, 49, 50] [] σ σ' ∧ (0 ≤ (gi σ' 41 15).toInt ∧ (gi σ' 41 15).toInt ≤ 1100) ∧ True) := by
  refine wa_start (by decide) rfl (Nat.le_of_ble_eq_true rfl) (lv := [(0, .ref 0), (1, .int a0)]) rfl o_X11_bound_0 rfl ?_
  have ua0 := Int32.toInt_lt a0
  have wa0 := Int32.le_toInt a0
  refine wa_aload_n (i := 0) rfl rfl ?_
  refine wa_getr ck_11 fl_11_16 ly_0 rf_0_1 ?_
  refine wa_getz ck_1 fl_11_122 ly_2 ?_
  refine wa_if_eq o_X11_bound_15 (by decide) (fun h1 => ?_) (fun h1 => ?_)
  · replace h1 := bI_f (b := (gb σ 2 8)) (rfl) h1
    refine wa_aload_n (i := 0) rfl rfl ?_
    refine wa_getr ck_11 fl_11_64 ly_0 rf_0_7 ?_
    refine wa_iload_n (i := 1) rfl rfl ?_
    refine wa_Vi (d9 := d - 1) [.int _] [] (sp_X0_boundDigit G (d := d - 1) (by omega) σ _ (by first | assumption | exact Or.inl rfl | exact Or.inr rfl | (((try simp only [vp_in_iff, Int32.lt_iff_toInt_lt, Int32.le_iff_toInt_le, ← Int32.toInt_inj, Int32.reduceToInt, n_1, n_2, n_8, Int32.toNatClampNeg, Int64.lt_iff_toInt_lt, Int64.le_iff_toInt_le, ← Int64.toInt_inj, Int64.reduceToInt, Int32.toInt_toInt64, lg_cmp_ge, lg_cmp_le, lg_cmp_gt, lg_cmp_lt, lg_cmp_eq, Bool.false_eq_true, Bool.true_eq_false, reduceCtorEq, false_iff, true_iff, iff_true, iff_false, and_true, true_and, and_false, false_and, reduceIte, ite_true, ite_false, eq_self] at *)) <;> omega))) (rfl) rfl rfl (zr (by omega)) mk_X0_boundDigit ly_41 ml_11_409 (Nat.le_of_ble_eq_true rfl) (fun x3 s2 hs2 => ?_)
    obtain ⟨fs2, cx3_1, -⟩ := pI hs2
    have Fs2 : Fm [41, 42, 43, 44, 45, 46, 47, 48, 49, 50] [] σ s2 := Fm.tr (Fm.rf [41, 42, 43, 44, 45, 46, 47, 48, 49, 50] [] σ) (Fm.wd fs2 rfl rfl)
    refine wa_ireturn rfl rfl ?_
    exact ⟨_, rfl, Fs2, (by first | assumption | (((try simp only [vp_in_iff, Int32.lt_iff_toInt_lt, Int32.le_iff_toInt_le, ← Int32.toInt_inj, Int32.reduceToInt, n_1, n_2, n_8, Int32.toNatClampNeg, Int64.lt_iff_toInt_lt, Int64.le_iff_toInt_le, ← Int64.toInt_inj, Int64.reduceToInt, Int32.toInt_toInt64, lg_cmp_ge, lg_cmp_le, lg_cmp_gt, lg_cmp_lt, lg_cmp_eq, Bool.false_eq_true, Bool.true_eq_false, reduceCtorEq, false_iff, true_iff, iff_true, iff_false, and_true, true_and, and_false, false_and, reduceIte, ite_true, ite_false, eq_self] at *)) <;> omega)), trivial⟩
  · replace h1 := bI_t (b := (gb σ 2 8)) (rfl) h1
    refine wa_bipush (v := (-105)) (by decide) ?_
    refine wa_goto o_X11_bound_23 (by decide) ?_
    refine wa_ireturn rfl rfl ?_
    exact ⟨_, rfl, (Fm.rf [41, 42, 43, 44, 45, 46, 47, 48, 49, 50] [] σ), (by first | assumption | (((try simp only [vp_in_iff, Int32.lt_iff_toInt_lt, Int32.le_iff_toInt_le, ← Int32.toInt_inj, Int32.reduceToInt, n_1, n_2, n_8, Int32.toNatClampNeg, Int64.lt_iff_toInt_lt, Int64.le_iff_toInt_le, ← Int64.toInt_inj, Int64.reduceToInt, Int32.toInt_toInt64, lg_cmp_ge, lg_cmp_le, lg_cmp_gt, lg_cmp_lt, lg_cmp_eq, Bool.false_eq_true, Bool.true_eq_false, reduceCtorEq, false_iff, true_iff, iff_true, iff_false, and_true, true_and, and_false, false_and, reduceIte, ite_true, ite_false, eq_self] at *)) <;> omega)), trivial⟩
set_option maxHeartbeats 4000000 in
theorem sp_X11_audit (G : kG9) {d : Nat} (hd : 0 ≤ d) (σ : St) : Ct G M_X11_audit d [.ref 0] σ (fun r σ' => ∃ x : Int32, r = some (.int x) ∧ σ = σ' ∧ True) := by
  refine wa_start (by decide) rfl (Nat.le_of_ble_eq_true rfl) (lv := [(0, .ref 0)]) rfl o_X11_audit_0 rfl ?_
  refine wa_aload_n (i := 0) rfl rfl ?_
  refine wa_getr ck_11 fl_11_16 ly_0 rf_0_1 ?_
  refine wa_getz ck_1 fl_11_122 ly_2 ?_
  refine wa_if_eq o_X11_audit_15 (by decide) (fun h1 => ?_) (fun h1 => ?_)
  · replace h1 := bI_f (b := (gb σ 2 8)) (rfl) h1
    refine wa_iconst (v := 0) (by decide) ?_
    refine wa_ireturn rfl rfl ?_
    exact ⟨_, rfl, rfl, trivial⟩
  · replace h1 := bI_t (b := (gb σ 2 8)) (rfl) h1
    refine wa_bipush (v := (-105)) (by decide) ?_
    refine wa_goto o_X11_audit_16 (by decide) ?_
    refine wa_ireturn rfl rfl ?_
    exact ⟨_, rfl, rfl, trivial⟩
