set_option maxHeartbeats 4000000 in
theorem sp_X11_useTape (G : kG9) {d : Nat} (hd : 0 ≤ d) (σ : St) : Ct G M_X11_useTape d [.ref 0] σ (fun r σ' => ∃ x : Int32, r = some (.int x) ∧ Fm [0] [] σ σ' ∧ True) := by
  refine wa_start (by decide) rfl (Nat.le_of_ble_eq_true rfl) (lv := [(0, .ref 0)]) rfl o_X11_useTape_0 rfl ?_
  refine wa_aload_n (i := 0) rfl rfl ?_
  refine wa_geti ck_11 fl_11_102 ly_0 ?_
  refine wa_istore_nD (lv' := [(1, .int (gi σ 0 12)), (0, .ref 0)]) (i := 1) rfl (by decide) rfl ?_
  refine wa_aload_n (i := 0) rfl rfl ?_
  refine wa_iconst (v := 0) (by decide) ?_
  refine wa_puti ck_11 fl_11_102 ly_0 (fun s1 hs1 => ?_)
  have Fs1 : Fm [0] [] σ s1 := by rw [hs1]; exact Fm.si (Fm.rf [0] [] σ) rfl
  refine wa_iload_n (i := 1) rfl rfl ?_
  refine wa_ireturn rfl rfl ?_
  exact ⟨_, rfl, Fs1, trivial⟩
set_option maxHeartbeats 4000000 in
theorem sp_X11_faulted (G : kG9) {d : Nat} (hd : 0 ≤ d) (σ : St) : Ct G M_X11_faulted d [.ref 0] σ (fun r σ' => ∃ x : Int32, r = some (.int x) ∧ Fm [0] [] σ σ' ∧ True) := by
  refine wa_start (by decide) rfl (Nat.le_of_ble_eq_true rfl) (lv := [(0, .ref 0)]) rfl o_X11_faulted_0 rfl ?_
  refine wa_aload_n (i := 0) rfl rfl ?_
  refine wa_aload_n (i := 0) rfl rfl ?_
  refine wa_getr ck_11 fl_11_48 ly_0 rf_0_5 ?_
  refine wa_geti ck_8 fl_11_250 ly_30 ?_
  refine wa_puti ck_11 fl_11_253 ly_0 (fun s1 hs1 => ?_)
  have Fs1 : Fm [0] [] σ s1 := by rw [hs1]; exact Fm.si (Fm.rf [0] [] σ) rfl
  refine wa_sipush (v := (-1000)) (by decide) ?_
  refine wa_aload_n (i := 0) rfl rfl ?_
  refine wa_getr ck_11 fl_11_48 ly_0 rf_0_5 ?_
  refine wa_geti ck_8 fl_11_256 ly_30 ?_
  refine wa_rw (nxq_gi_si hs1 (by decide)) ?_
  refine wa_isub ?_
  refine wa_top (fun v2 hv2 => ?_)
  have tv2 := i_subT hv2
  clear hv2
  refine wa_ireturn rfl rfl ?_
  exact ⟨_, rfl, Fs1, trivial⟩
set_option maxHeartbeats 4000000 in
theorem sp_X11_fault (G : kG9) {d : Nat} (hd : 0 ≤ d) (σ : St) : Ct G M_X11_fault d [.ref 0] σ (fun r σ' => ∃ x : Int32, r = some (.int x) ∧ σ = σ' ∧ True) := by
  refine wa_start (by decide) rfl (Nat.le_of_ble_eq_true rfl) (lv := [(0, .ref 0)]) rfl o_X11_fault_0 rfl ?_
  refine wa_aload_n (i := 0) rfl rfl ?_
  refine wa_geti ck_11 fl_11_253 ly_0 ?_
  refine wa_ireturn rfl rfl ?_
  exact ⟨_, rfl, rfl, trivial⟩
set_option maxHeartbeats 4000000 in
theorem sp_X11_on (G : kG9) {d : Nat} (hd : 3 ≤ d) (σ : St) (a0 : Int32) (a1 : Bool) : Ct G M_X11_on d [.ref 0, .int a0, .int (bI a1)] σ (fun r σ' => ∃ x : Int32, r = some (.int x) ∧ Fm [0, 2, 3, 4, 5, 6, 7] [] σ σ' ∧ True) := by
  refine wa_start (by decide) rfl (Nat.le_of_ble_eq_true rfl) (lv := [(0, .ref 0), (1, .int a0), (2, .int (bI a1))]) rfl o_X11_on_0 rfl ?_
  have ua0 := Int32.toInt_lt a0
  have wa0 := Int32.le_toInt a0
  refine wa_aload_n (i := 0) rfl rfl ?_
  refine wa_getr ck_11 fl_11_16 ly_0 rf_0_1 ?_
  refine wa_getz ck_1 fl_11_122 ly_2 ?_
  refine wa_if_eq o_X11_on_13 (by decide) (fun h1 => ?_) (fun h1 => ?_)
  · replace h1 := bI_f (b := (gb σ 2 8)) (rfl) h1
    refine wa_aload_n (i := 0) rfl rfl ?_
    refine wa_getr ck_11 fl_11_23 ly_0 rf_0_2 ?_
    refine wa_iload_n (i := 1) rfl rfl ?_
    refine wa_Vi (d9 := d - 1) [.int _] [] (sp_X2_isClaim G (d := d - 1) (by omega) σ _) (rfl) rfl rfl (zr (by omega)) mk_X2_isClaim ly_7 ml_11_176 (Nat.le_of_ble_eq_true rfl) (fun x3 s2 hs2 => ?_)
    obtain ⟨bx3, ex3, zs2, -⟩ := pB hs2
    subst ex3
    subst zs2
    refine wa_if_ne o_X11_on_27 (by decide) (fun h4 => ?_) (fun h4 => ?_)
    · replace h4 := bI_t (b := bx3) (rfl) h4
      refine wa_aload_n (i := 0) rfl rfl ?_
      refine wa_getr ck_11 fl_11_16 ly_0 rf_0_1 ?_
      refine wa_bipush (v := 9) (by decide) ?_
      refine wa_Vi (d9 := d - 1) [.int _] [] (sp_X1_hasRoom G (d := d - 1) (by omega) σ _) (rfl) rfl rfl (zr (by omega)) mk_X1_hasRoom ly_2 ml_11_239 (Nat.le_of_ble_eq_true rfl) (fun x6 s5 hs5 => ?_)
      obtain ⟨bx6, ex6, zs5, -⟩ := pB hs5
      subst ex6
      subst zs5
      refine wa_if_ne o_X11_on_42 (by decide) (fun h7 => ?_) (fun h7 => ?_)
      · replace h7 := bI_t (b := bx6) (rfl) h7
        refine wa_aload_n (i := 0) rfl rfl ?_
        refine wa_getr ck_11 fl_11_23 ly_0 rf_0_2 ?_
        refine wa_iload_n (i := 1) rfl rfl ?_
        refine wa_iload_n (i := 2) rfl rfl ?_
        refine wa_Vi (d9 := d - 1) [.int _, .int (bI a1)] [] (sp_X2_turn G (d := d - 1) (by omega) σ _ a1) (rfl) rfl rfl (zr (by omega)) mk_X2_turn ly_7 ml_11_180 (Nat.le_of_ble_eq_true rfl) (fun x9 s8 hs8 => ?_)
        obtain ⟨bx9, ex9, fs8, -⟩ := pB hs8
        subst ex9
        have Fs8 : Fm [0, 2, 3, 4, 5, 6, 7] [] σ s8 := Fm.tr (Fm.rf [0, 2, 3, 4, 5, 6, 7] [] σ) (Fm.ofSm fs8 rfl)
        refine wa_istore_nD (lv' := [(3, .int (bI bx9)), (0, .ref 0), (1, .int a0), (2, .int (bI a1))]) (i := 3) rfl (by decide) rfl ?_
        refine wa_aload_n (i := 0) rfl rfl ?_
        refine wa_getr ck_11 fl_11_16 ly_0 rf_0_1 ?_
        refine wa_iload_n (i := 1) rfl rfl ?_
        refine wa_iload_n (i := 2) rfl rfl ?_
        refine wa_Vv (d9 := d - 1) [.int _, .int (bI a1)] [] (sp_X1_recordOn G (d := d - 1) (by omega) s8 _ a1) (rfl) rfl rfl (zr (by omega)) mk_X1_recordOn ly_2 ml_11_259 (Nat.le_of_ble_eq_true rfl) (fun s10 hs10 => ?_)
        obtain ⟨fs10, -⟩ := hs10
        have Fs10 : Fm [0, 2, 3, 4, 5, 6, 7] [] σ s10 := Fm.tr Fs8 (Fm.ofSm fs10 rfl)
        refine wa_aload_n (i := 0) rfl rfl ?_
        refine wa_dup rfl ?_
        refine wa_geti ck_11 fl_11_137 ly_0 ?_
        refine wa_rw ((Sm.gi fs10 14 (Or.inl (by decide))).trans (Sm.gi fs8 14 (Or.inl (by decide)))) ?_
        refine wa_iconst (v := 1) (by decide) ?_
        refine wa_iadd ?_
        refine wa_top (fun v12 hv12 => ?_)
        have tv12 := i_addT hv12
        clear hv12
        refine wa_puti ck_11 fl_11_137 ly_0 (fun s13 hs13 => ?_)
        have Fs13 : Fm [0, 2, 3, 4, 5, 6, 7] [] σ s13 := by rw [hs13]; exact Fm.si Fs10 rfl
        refine wa_iload_n (i := 3) rfl rfl ?_
        refine wa_if_eq o_X11_on_79 (by decide) (fun h14 => ?_) (fun h14 => ?_)
        · replace h14 := bI_f (b := bx9) (rfl) h14
          refine wa_iconst (v := 0) (by decide) ?_
          refine wa_ireturn rfl rfl ?_
          exact ⟨_, rfl, Fs13, trivial⟩
        · replace h14 := bI_t (b := bx9) (rfl) h14
          refine wa_iconst (v := 1) (by decide) ?_
          refine wa_goto o_X11_on_80 (by decide) ?_
          refine wa_ireturn rfl rfl ?_
          exact ⟨_, rfl, Fs13, trivial⟩
      · replace h7 := bI_f (b := bx6) (rfl) h7
        refine wa_bipush (v := (-104)) (by decide) ?_
        refine wa_ireturn rfl rfl ?_
        exact ⟨_, rfl, (Fm.rf [0, 2, 3, 4, 5, 6, 7] [] σ), trivial⟩
    · replace h4 := bI_f (b := bx3) (rfl) h4
      refine wa_bipush (v := (-101)) (by decide) ?_
      refine wa_ireturn rfl rfl ?_
      exact ⟨_, rfl, (Fm.rf [0, 2, 3, 4, 5, 6, 7] [] σ), trivial⟩
  · replace h1 := bI_t (b := (gb σ 2 8)) (rfl) h1
    refine wa_bipush (v := (-105)) (by decide) ?_
    refine wa_ireturn rfl rfl ?_
    exact ⟨_, rfl, (Fm.rf [0, 2, 3, 4, 5, 6, 7] [] σ), trivial⟩
set_option maxHeartbeats 4000000 in
theorem sp_X11_push (G : kG9) {d : Nat} (hd : 2 ≤ d) (σ : St) : Ct G M_X11_push d [.ref 0] σ (fun r σ' => ∃ x : Int32, r = some (.int x) ∧ Fm [0, 2, 3, 4, 5, 6, 7, 8, 9, 10, 11, 12, 13, 14, 15, 16] [] σ σ' ∧ True) := by
  refine wa_start (by decide) rfl (Nat.le_of_ble_eq_true rfl) (lv := [(0, .ref 0)]) rfl o_X11_push_0 rfl ?_
  refine wa_aload_n (i := 0) rfl rfl ?_
  refine wa_getr ck_11 fl_11_16 ly_0 rf_0_1 ?_
  refine wa_getz ck_1 fl_11_122 ly_2 ?_
  refine wa_if_eq o_X11_push_13 (by decide) (fun h1 => ?_) (fun h1 => ?_)
  · replace h1 := bI_f (b := (gb σ 2 8)) (rfl) h1
    refine wa_aload_n (i := 0) rfl rfl ?_
    refine wa_getr ck_11 fl_11_23 ly_0 rf_0_2 ?_
    refine wa_geti ck_2 fl_11_221 ly_7 ?_
    refine wa_bipush (v := 8) (by decide) ?_
    refine wa_icmp_ge o_X11_push_36 (by decide) (fun h2 => ?_) (fun h2 => ?_)
    · refine wa_bipush (v := (-104)) (by decide) ?_
      refine wa_ireturn rfl rfl ?_
      exact ⟨_, rfl, (Fm.rf [0, 2, 3, 4, 5, 6, 7, 8, 9, 10, 11, 12, 13, 14, 15, 16] [] σ), trivial⟩
    · have mh2 := nle_mx h2
      refine wa_aload_n (i := 0) rfl rfl ?_
      refine wa_getr ck_11 fl_11_16 ly_0 rf_0_1 ?_
      refine wa_iconst (v := 1) (by decide) ?_
      refine wa_Vi (d9 := d - 1) [.int _] [] (sp_X1_hasRoom G (d := d - 1) (by omega) σ _) (rfl) rfl rfl (zr (by omega)) mk_X1_hasRoom ly_2 ml_11_239 (Nat.le_of_ble_eq_true rfl) (fun x4 s3 hs3 => ?_)
      obtain ⟨bx4, ex4, zs3, -⟩ := pB hs3
      subst ex4
      subst zs3
      refine wa_if_ne o_X11_push_39 (by decide) (fun h5 => ?_) (fun h5 => ?_)
      · replace h5 := bI_t (b := bx4) (rfl) h5
        refine wa_aload_n (i := 0) rfl rfl ?_
        refine wa_getr ck_11 fl_11_23 ly_0 rf_0_2 ?_
        refine wa_Vi (d9 := d - 1) [] [] (sp_X2_addLayer G (d := d - 1) (by omega) σ ) (rfl) rfl rfl (zr (by omega)) mk_X2_addLayer ly_7 ml_11_184 (Nat.le_of_ble_eq_true rfl) (fun x7 s6 hs6 => ?_)
        obtain ⟨bx7, ex7, fs6, -⟩ := pB hs6
        subst ex7
        have Fs6 : Fm [0, 2, 3, 4, 5, 6, 7, 8, 9, 10, 11, 12, 13, 14, 15, 16] [] σ s6 := Fm.tr (Fm.rf [0, 2, 3, 4, 5, 6, 7, 8, 9, 10, 11, 12, 13, 14, 15, 16] [] σ) (Fm.ofSm fs6 rfl)
        refine wa_pop rfl ?_
        refine wa_aload_n (i := 0) rfl rfl ?_
        refine wa_getr ck_11 fl_11_16 ly_0 rf_0_1 ?_
        refine wa_iconst (v := 3) (by decide) ?_
        refine wa_Vv (d9 := d - 1) [.int _] [] (sp_X1_recordAct G (d := d - 1) (by omega) s6 _) (rfl) rfl rfl (zr (by omega)) mk_X1_recordAct ly_2 ml_11_263 (Nat.le_of_ble_eq_true rfl) (fun s8 hs8 => ?_)
        obtain ⟨fs8, -⟩ := hs8
        have Fs8 : Fm [0, 2, 3, 4, 5, 6, 7, 8, 9, 10, 11, 12, 13, 14, 15, 16] [] σ s8 := Fm.tr Fs6 (Fm.ofSm fs8 rfl)
        refine wa_aload_n (i := 0) rfl rfl ?_
        refine wa_dup rfl ?_
        refine wa_geti ck_11 fl_11_137 ly_0 ?_
        refine wa_rw ((Sm.gi fs8 14 (Or.inl (by decide))).trans (Sm.gi fs6 14 (Or.inl (by decide)))) ?_
        refine wa_iconst (v := 1) (by decide) ?_
        refine wa_iadd ?_
        refine wa_top (fun v10 hv10 => ?_)
        have tv10 := i_addT hv10
        clear hv10
        refine wa_puti ck_11 fl_11_137 ly_0 (fun s11 hs11 => ?_)
        have Fs11 : Fm [0, 2, 3, 4, 5, 6, 7, 8, 9, 10, 11, 12, 13, 14, 15, 16] [] σ s11 := by rw [hs11]; exact Fm.si Fs8 rfl
        refine wa_aload_n (i := 0) rfl rfl ?_
        refine wa_getr ck_11 fl_11_23 ly_0 rf_0_2 ?_
        refine wa_geti ck_2 fl_11_221 ly_7 ?_
        refine wa_rw ((nxq_gi_si hs11 (by decide)).trans (Sm.gi fs8 14 (Or.inr (by decide)))) ?_
        refine wa_ireturn rfl rfl ?_
        exact ⟨_, rfl, Fs11, trivial⟩
      · replace h5 := bI_f (b := bx4) (rfl) h5
        refine wa_bipush (v := (-104)) (by decide) ?_
        refine wa_ireturn rfl rfl ?_
        exact ⟨_, rfl, (Fm.rf [0, 2, 3, 4, 5, 6, 7, 8, 9, 10, 11, 12, 13, 14, 15, 16] [] σ), trivial⟩
  · replace h1 := bI_t (b := (gb σ 2 8)) (rfl) h1
    refine wa_bipush (v := (-105)) (by decide) ?_
    refine wa_ireturn rfl rfl ?_
    exact ⟨_, rfl, (Fm.rf [0, 2, 3, 4, 5, 6, 7, 8, 9, 10, 11, 12, 13, 14, 15, 16] [] σ), trivial⟩
set_option maxHeartbeats 4000000 in
theorem sp_X11_pop (G : kG9) {d : Nat} (hd : 2 ≤ d) (σ : St) : Ct G M_X11_pop d [.ref 0] σ (fun r σ' => ∃ x : Int32, r = some (.int x) ∧ Fm [0, 2, 3, 4, 5, 6, 7] [] σ σ' ∧ True) := by
  refine wa_start (by decide) rfl (Nat.le_of_ble_eq_true rfl) (lv := [(0, .ref 0)]) rfl o_X11_pop_0 rfl ?_
  refine wa_aload_n (i := 0) rfl rfl ?_
  refine wa_getr ck_11 fl_11_16 ly_0 rf_0_1 ?_
  refine wa_getz ck_1 fl_11_122 ly_2 ?_
  refine wa_if_eq o_X11_pop_13 (by decide) (fun h1 => ?_) (fun h1 => ?_)
  · replace h1 := bI_f (b := (gb σ 2 8)) (rfl) h1
    refine wa_aload_n (i := 0) rfl rfl ?_
    refine wa_getr ck_11 fl_11_23 ly_0 rf_0_2 ?_
    refine wa_geti ck_2 fl_11_221 ly_7 ?_
    refine wa_if_ne o_X11_pop_26 (by decide) (fun h2 => ?_) (fun h2 => ?_)
    · refine wa_aload_n (i := 0) rfl rfl ?_
      refine wa_getr ck_11 fl_11_16 ly_0 rf_0_1 ?_
      refine wa_iconst (v := 1) (by decide) ?_
      refine wa_Vi (d9 := d - 1) [.int _] [] (sp_X1_hasRoom G (d := d - 1) (by omega) σ _) (rfl) rfl rfl (zr (by omega)) mk_X1_hasRoom ly_2 ml_11_239 (Nat.le_of_ble_eq_true rfl) (fun x4 s3 hs3 => ?_)
      obtain ⟨bx4, ex4, zs3, -⟩ := pB hs3
      subst ex4
      subst zs3
      refine wa_if_ne o_X11_pop_40 (by decide) (fun h5 => ?_) (fun h5 => ?_)
      · replace h5 := bI_t (b := bx4) (rfl) h5
        refine wa_aload_n (i := 0) rfl rfl ?_
        refine wa_getr ck_11 fl_11_23 ly_0 rf_0_2 ?_
        refine wa_Vi (d9 := d - 1) [] [] (sp_X2_leaveLayer G (d := d - 1) (by omega) σ ) (rfl) rfl rfl (zr (by omega)) mk_X2_leaveLayer ly_7 ml_11_188 (Nat.le_of_ble_eq_true rfl) (fun x7 s6 hs6 => ?_)
        obtain ⟨bx7, ex7, fs6, -⟩ := pB hs6
        subst ex7
        have Fs6 : Fm [0, 2, 3, 4, 5, 6, 7] [] σ s6 := Fm.tr (Fm.rf [0, 2, 3, 4, 5, 6, 7] [] σ) (Fm.ofSm fs6 rfl)
        refine wa_pop rfl ?_
        refine wa_aload_n (i := 0) rfl rfl ?_
        refine wa_getr ck_11 fl_11_16 ly_0 rf_0_1 ?_
        refine wa_iconst (v := 4) (by decide) ?_
        refine wa_Vv (d9 := d - 1) [.int _] [] (sp_X1_recordAct G (d := d - 1) (by omega) s6 _) (rfl) rfl rfl (zr (by omega)) mk_X1_recordAct ly_2 ml_11_263 (Nat.le_of_ble_eq_true rfl) (fun s8 hs8 => ?_)
        obtain ⟨fs8, -⟩ := hs8
        have Fs8 : Fm [0, 2, 3, 4, 5, 6, 7] [] σ s8 := Fm.tr Fs6 (Fm.ofSm fs8 rfl)
        refine wa_aload_n (i := 0) rfl rfl ?_
        refine wa_dup rfl ?_
        refine wa_geti ck_11 fl_11_137 ly_0 ?_
        refine wa_rw ((Sm.gi fs8 14 (Or.inl (by decide))).trans (Sm.gi fs6 14 (Or.inl (by decide)))) ?_
        refine wa_iconst (v := 1) (by decide) ?_
        refine wa_iadd ?_
        refine wa_top (fun v10 hv10 => ?_)
        have tv10 := i_addT hv10
        clear hv10
        refine wa_puti ck_11 fl_11_137 ly_0 (fun s11 hs11 => ?_)
        have Fs11 : Fm [0, 2, 3, 4, 5, 6, 7] [] σ s11 := by rw [hs11]; exact Fm.si Fs8 rfl
        refine wa_aload_n (i := 0) rfl rfl ?_
        refine wa_getr ck_11 fl_11_23 ly_0 rf_0_2 ?_
        refine wa_geti ck_2 fl_11_221 ly_7 ?_
        refine wa_rw ((nxq_gi_si hs11 (by decide)).trans (Sm.gi fs8 14 (Or.inr (by decide)))) ?_
        refine wa_ireturn rfl rfl ?_
        exact ⟨_, rfl, Fs11, trivial⟩
      · replace h5 := bI_f (b := bx4) (rfl) h5
        refine wa_bipush (v := (-104)) (by decide) ?_
        refine wa_ireturn rfl rfl ?_
        exact ⟨_, rfl, (Fm.rf [0, 2, 3, 4, 5, 6, 7] [] σ), trivial⟩
    · refine wa_bipush (v := (-103)) (by decide) ?_
      refine wa_ireturn rfl rfl ?_
      exact ⟨_, rfl, (Fm.rf [0, 2, 3, 4, 5, 6, 7] [] σ), trivial⟩
  · replace h1 := bI_t (b := (gb σ 2 8)) (rfl) h1
    refine wa_bipush (v := (-105)) (by decide) ?_
    refine wa_ireturn rfl rfl ?_
    exact ⟨_, rfl, (Fm.rf [0, 2, 3, 4, 5, 6, 7] [] σ), trivial⟩
set_option maxHeartbeats 4000000 in
theorem sp_X11_find (G : kG9) {d : Nat} (hd : 8 ≤ d) (σ : St) : Ct G M_X11_find d [.ref 0] σ (fun r σ' => ∃ x : Int32, r = some (.int x) ∧ Fm [0, 18, 19, 20, 21, 22, 23, 30] [] σ σ' ∧ True) := by
  refine wa_start (by decide) rfl (Nat.le_of_ble_eq_true rfl) (lv := [(0, .ref 0)]) rfl o_X11_find_0 rfl ?_
  refine wa_aload_n (i := 0) rfl rfl ?_
  refine wa_getr ck_11 fl_11_16 ly_0 rf_0_1 ?_
  refine wa_getz ck_1 fl_11_122 ly_2 ?_
  refine wa_if_eq o_X11_find_13 (by decide) (fun h1 => ?_) (fun h1 => ?_)
  · replace h1 := bI_f (b := (gb σ 2 8)) (rfl) h1
    refine wa_aload_n (i := 0) rfl rfl ?_
    refine wa_getr ck_11 fl_11_48 ly_0 rf_0_5 ?_
    refine wa_aload_n (i := 0) rfl rfl ?_
    refine wa_getr ck_11 fl_11_9 ly_0 rf_0_0 ?_
    refine wa_aload_n (i := 0) rfl rfl ?_
    refine wa_Vi (d9 := d - 1) [] [.ref 1, .ref 30] (sp_X11_useTape G (d := d - 1) (by omega) σ ) (rfl) rfl rfl (zr (by omega)) mk_X11_useTape ly_0 ml_11_230 (Nat.le_of_ble_eq_true rfl) (fun x3 s2 hs2 => ?_)
    obtain ⟨fs2, -⟩ := pI hs2
    have Fs2 : Fm [0, 18, 19, 20, 21, 22, 23, 30] [] σ s2 := Fm.tr (Fm.rf [0, 18, 19, 20, 21, 22, 23, 30] [] σ) (Fm.wd fs2 rfl rfl)
    refine wa_Vi (d9 := d - 1) [.ref 1, .int _] [] (sp_X8_readName G (d := d - 1) (by omega) s2 _) (rfl) rfl rfl (zr (by omega)) mk_X8_readName ly_30 ml_11_266 (Nat.le_of_ble_eq_true rfl) (fun x5 s4 hs4 => ?_)
    obtain ⟨fs4, -⟩ := pI hs4
    have Fs4 : Fm [0, 18, 19, 20, 21, 22, 23, 30] [] σ s4 := Fm.tr Fs2 (Fm.wd fs4 rfl rfl)
    refine wa_istore_nD (lv' := [(1, .int x5), (0, .ref 0)]) (i := 1) rfl (by decide) rfl ?_
    refine wa_iload_n (i := 1) rfl rfl ?_
    refine wa_iconst (v := (-1)) (by decide) ?_
    refine wa_icmp_ne o_X11_find_41 (by decide) (fun h6 => ?_) (fun h6 => ?_)
    · refine wa_iload_n (i := 1) rfl rfl ?_
      refine wa_ireturn rfl rfl ?_
      exact ⟨_, rfl, Fs4, trivial⟩
    · refine wa_aload_n (i := 0) rfl rfl ?_
      refine wa_Vi (d9 := d - 1) [] [] (sp_X11_faulted G (d := d - 1) (by omega) s4 ) (rfl) rfl rfl (zr (by omega)) mk_X11_faulted ly_0 ml_11_236 (Nat.le_of_ble_eq_true rfl) (fun x8 s7 hs7 => ?_)
      obtain ⟨fs7, -⟩ := pI hs7
      have Fs7 : Fm [0, 18, 19, 20, 21, 22, 23, 30] [] σ s7 := Fm.tr Fs4 (Fm.wd fs7 rfl rfl)
      refine wa_goto o_X11_find_42 (by decide) ?_
      refine wa_ireturn rfl rfl ?_
      exact ⟨_, rfl, Fs7, trivial⟩
  · replace h1 := bI_t (b := (gb σ 2 8)) (rfl) h1
    refine wa_bipush (v := (-105)) (by decide) ?_
    refine wa_ireturn rfl rfl ?_
    exact ⟨_, rfl, (Fm.rf [0, 18, 19, 20, 21, 22, 23, 30] [] σ), trivial⟩
set_option maxHeartbeats 4000000 in
theorem sp_X11_about (G : kG9) {d : Nat} (hd : 1 ≤ d) (σ : St) (a0 : Int32) (a1 : Int32) : Ct G M_X11_about d [.ref 0, .int a0, .int a1] σ (fun r σ' => ∃ x : Int32, r = some (.int x) ∧ σ = σ' ∧ True) := by
  refine wa_start (by decide) rfl (Nat.le_of_ble_eq_true rfl) (lv := [(0, .ref 0), (1, .int a0), (2, .int a1)]) rfl o_X11_about_0 rfl ?_
  have ua0 := Int32.toInt_lt a0
  have wa0 := Int32.le_toInt a0
  have ua1 := Int32.toInt_lt a1
  have wa1 := Int32.le_toInt a1
  refine wa_aload_n (i := 0) rfl rfl ?_
  refine wa_getr ck_11 fl_11_16 ly_0 rf_0_1 ?_
  refine wa_getz ck_1 fl_11_122 ly_2 ?_
  refine wa_if_eq o_X11_about_13 (by decide) (fun h1 => ?_) (fun h1 => ?_)
  · replace h1 := bI_f (b := (gb σ 2 8)) (rfl) h1
    refine wa_aload_n (i := 0) rfl rfl ?_
    refine wa_getr ck_11 fl_11_23 ly_0 rf_0_2 ?_
    refine wa_iload_n (i := 1) rfl rfl ?_
    refine wa_Vi (d9 := d - 1) [.int _] [] (sp_X2_isClaim G (d := d - 1) (by omega) σ _) (rfl) rfl rfl (zr (by omega)) mk_X2_isClaim ly_7 ml_11_176 (Nat.le_of_ble_eq_true rfl) (fun x3 s2 hs2 => ?_)
    obtain ⟨bx3, ex3, zs2, -⟩ := pB hs2
    subst ex3
    subst zs2
    refine wa_if_ne o_X11_about_27 (by decide) (fun h4 => ?_) (fun h4 => ?_)
    · replace h4 := bI_t (b := bx3) (rfl) h4
      refine wa_iload_n (i := 2) rfl rfl ?_
      refine wa_top (fun q5 hq5 => ?_)
      by_cases h6 : q5 = 0
      · refine wa_tIn (by rw [h6]; decide) (by rw [h6]; decide) (by rw [h6] <;> rfl) o_X11_about_68 (by decide) ?_
        refine wa_aload_n (i := 0) rfl rfl ?_
        refine wa_getr ck_11 fl_11_23 ly_0 rf_0_2 ?_
        refine wa_geti ck_2 fl_11_213 ly_7 ?_
        refine wa_iload_n (i := 1) rfl rfl ?_
        refine wa_iushr ?_
        refine wa_top (fun v7 hv7 => ?_)
        clear hv7
        refine wa_iconst (v := 1) (by decide) ?_
        refine wa_iand ?_
        refine wa_top (fun v8 hv8 => ?_)
        have tv8 := i_andT hv8
        clear hv8
        refine wa_ireturn rfl rfl ?_
        exact ⟨_, rfl, rfl, trivial⟩
      ·
        by_cases h9 : q5 = 1
        · refine wa_tIn (by rw [h9]; decide) (by rw [h9]; decide) (by rw [h9] <;> rfl) o_X11_about_80 (by decide) ?_
          refine wa_aload_n (i := 0) rfl rfl ?_
          refine wa_getr ck_11 fl_11_23 ly_0 rf_0_2 ?_
          refine wa_iload_n (i := 1) rfl rfl ?_
          refine wa_iconst (v := 4) (by decide) ?_
          refine wa_Vi (d9 := d - 1) [.int _, .int _] [] (sp_X2_fact G (d := d - 1) (by omega) σ _ _) (rfl) rfl rfl (zr (by omega)) mk_X2_fact ly_7 ml_11_270 (Nat.le_of_ble_eq_true rfl) (fun x11 s10 hs10 => ?_)
          obtain ⟨zs10, -⟩ := pI hs10
          subst zs10
          refine wa_ireturn rfl rfl ?_
          exact ⟨_, rfl, rfl, trivial⟩
        ·
          by_cases h12 : q5 = 2
          · refine wa_tIn (by rw [h12]; decide) (by rw [h12]; decide) (by rw [h12] <;> rfl) o_X11_about_90 (by decide) ?_
            refine wa_aload_n (i := 0) rfl rfl ?_
            refine wa_getr ck_11 fl_11_23 ly_0 rf_0_2 ?_
            refine wa_iload_n (i := 1) rfl rfl ?_
            refine wa_iconst (v := 3) (by decide) ?_
            refine wa_Vi (d9 := d - 1) [.int _, .int _] [] (sp_X2_fact G (d := d - 1) (by omega) σ _ _) (rfl) rfl rfl (zr (by omega)) mk_X2_fact ly_7 ml_11_270 (Nat.le_of_ble_eq_true rfl) (fun x14 s13 hs13 => ?_)
            obtain ⟨zs13, -⟩ := pI hs13
            subst zs13
            refine wa_ireturn rfl rfl ?_
            exact ⟨_, rfl, rfl, trivial⟩
          ·
            by_cases h15 : q5 = 3
            · refine wa_tIn (by rw [h15]; decide) (by rw [h15]; decide) (by rw [h15] <;> rfl) o_X11_about_100 (by decide) ?_
              refine wa_aload_n (i := 0) rfl rfl ?_
              refine wa_getr ck_11 fl_11_23 ly_0 rf_0_2 ?_
              refine wa_iload_n (i := 1) rfl rfl ?_
              refine wa_iconst (v := 5) (by decide) ?_
              refine wa_Vi (d9 := d - 1) [.int _, .int _] [] (sp_X2_fact G (d := d - 1) (by omega) σ _ _) (rfl) rfl rfl (zr (by omega)) mk_X2_fact ly_7 ml_11_270 (Nat.le_of_ble_eq_true rfl) (fun x17 s16 hs16 => ?_)
              obtain ⟨zs16, -⟩ := pI hs16
              subst zs16
              refine wa_ireturn rfl rfl ?_
              exact ⟨_, rfl, rfl, trivial⟩
            ·
              by_cases h18 : q5 = 4
              · refine wa_tIn (by rw [h18]; decide) (by rw [h18]; decide) (by rw [h18] <;> rfl) o_X11_about_110 (by decide) ?_
                refine wa_aload_n (i := 0) rfl rfl ?_
                refine wa_getr ck_11 fl_11_23 ly_0 rf_0_2 ?_
                refine wa_iload_n (i := 1) rfl rfl ?_
                refine wa_bipush (v := 8) (by decide) ?_
                refine wa_Vi (d9 := d - 1) [.int _, .int _] [] (sp_X2_fact G (d := d - 1) (by omega) σ _ _) (rfl) rfl rfl (zr (by omega)) mk_X2_fact ly_7 ml_11_270 (Nat.le_of_ble_eq_true rfl) (fun x20 s19 hs19 => ?_)
                obtain ⟨zs19, -⟩ := pI hs19
                subst zs19
                refine wa_ireturn rfl rfl ?_
                exact ⟨_, rfl, rfl, trivial⟩
              ·
                by_cases h21 : q5 = 5
                · refine wa_tIn (by rw [h21]; decide) (by rw [h21]; decide) (by rw [h21] <;> rfl) o_X11_about_121 (by decide) ?_
                  refine wa_aload_n (i := 0) rfl rfl ?_
                  refine wa_getr ck_11 fl_11_23 ly_0 rf_0_2 ?_
                  refine wa_iload_n (i := 1) rfl rfl ?_
                  refine wa_iconst (v := 0) (by decide) ?_
                  refine wa_Vi (d9 := d - 1) [.int _, .int _] [] (sp_X2_fact G (d := d - 1) (by omega) σ _ _) (rfl) rfl rfl (zr (by omega)) mk_X2_fact ly_7 ml_11_270 (Nat.le_of_ble_eq_true rfl) (fun x23 s22 hs22 => ?_)
                  obtain ⟨zs22, -⟩ := pI hs22
                  subst zs22
                  refine wa_ireturn rfl rfl ?_
                  exact ⟨_, rfl, rfl, trivial⟩
                ·
                  refine wa_tOut (by (try simp only [vp_in_iff, Int32.lt_iff_toInt_lt, Int32.le_iff_toInt_le, ← Int32.toInt_inj, Int32.reduceToInt, n_1, n_2, n_8, Int32.toNatClampNeg, Int64.lt_iff_toInt_lt, Int64.le_iff_toInt_le, ← Int64.toInt_inj, Int64.reduceToInt, Int32.toInt_toInt64, lg_cmp_ge, lg_cmp_le, lg_cmp_gt, lg_cmp_lt, lg_cmp_eq] at *) <;> omega) o_X11_about_131 (by decide) ?_
                  refine wa_iconst (v := (-1)) (by decide) ?_
                  refine wa_ireturn rfl rfl ?_
                  exact ⟨_, rfl, rfl, trivial⟩
    · replace h4 := bI_f (b := bx3) (rfl) h4
      refine wa_bipush (v := (-101)) (by decide) ?_
      refine wa_ireturn rfl rfl ?_
      exact ⟨_, rfl, rfl, trivial⟩
  · replace h1 := bI_t (b := (gb σ 2 8)) (rfl) h1
    refine wa_bipush (v := (-105)) (by decide) ?_
    refine wa_ireturn rfl rfl ?_
    exact ⟨_, rfl, rfl, trivial⟩
set_option maxHeartbeats 4000000 in
theorem sp_X11_atom (G : kG9) {d : Nat} (hd : 1 ≤ d) (σ : St) (a0 : Int32) (a1 : Int32) (a2 : Int32) : Ct G M_X11_atom d [.ref 0, .int a0, .int a1, .int a2] σ (fun r σ' => ∃ x : Int32, r = some (.int x) ∧ σ = σ' ∧ True) := by
  refine wa_start (by decide) rfl (Nat.le_of_ble_eq_true rfl) (lv := [(0, .ref 0), (1, .int a0), (2, .int a1), (3, .int a2)]) rfl o_X11_atom_0 rfl ?_
  have ua0 := Int32.toInt_lt a0
  have wa0 := Int32.le_toInt a0
  have ua1 := Int32.toInt_lt a1
  have wa1 := Int32.le_toInt a1
  have ua2 := Int32.toInt_lt a2
  have wa2 := Int32.le_toInt a2
  refine wa_aload_n (i := 0) rfl rfl ?_
  refine wa_getr ck_11 fl_11_16 ly_0 rf_0_1 ?_
  refine wa_getz ck_1 fl_11_122 ly_2 ?_
  refine wa_if_eq o_X11_atom_13 (by decide) (fun h1 => ?_) (fun h1 => ?_)
  · replace h1 := bI_f (b := (gb σ 2 8)) (rfl) h1
    refine wa_aload_n (i := 0) rfl rfl ?_
    refine wa_getr ck_11 fl_11_23 ly_0 rf_0_2 ?_
    refine wa_iload_n (i := 1) rfl rfl ?_
    refine wa_Vi (d9 := d - 1) [.int _] [] (sp_X2_isClaim G (d := d - 1) (by omega) σ _) (rfl) rfl rfl (zr (by omega)) mk_X2_isClaim ly_7 ml_11_176 (Nat.le_of_ble_eq_true rfl) (fun x3 s2 hs2 => ?_)
    obtain ⟨bx3, ex3, zs2, -⟩ := pB hs2
    subst ex3
    subst zs2
    refine wa_if_ne o_X11_atom_27 (by decide) (fun h4 => ?_) (fun h4 => ?_)
    · replace h4 := bI_t (b := bx3) (rfl) h4
      refine wa_iload_n (i := 2) rfl rfl ?_
      refine wa_if_lt o_X11_atom_53 (by decide) (fun h5 => ?_) (fun h5 => ?_)
      · refine wa_bipush (v := (-102)) (by decide) ?_
        refine wa_ireturn rfl rfl ?_
        exact ⟨_, rfl, rfl, trivial⟩
      · refine wa_iload_n (i := 2) rfl rfl ?_
        refine wa_aload_n (i := 0) rfl rfl ?_
        refine wa_getr ck_11 fl_11_23 ly_0 rf_0_2 ?_
        refine wa_iload_n (i := 1) rfl rfl ?_
        refine wa_iconst (v := 4) (by decide) ?_
        refine wa_Vi (d9 := d - 1) [.int _, .int _] [.int a1] (sp_X2_fact G (d := d - 1) (by omega) σ _ _) (rfl) rfl rfl (zr (by omega)) mk_X2_fact ly_7 ml_11_270 (Nat.le_of_ble_eq_true rfl) (fun x7 s6 hs6 => ?_)
        obtain ⟨zs6, -⟩ := pI hs6
        subst zs6
        refine wa_icmp_ge o_X11_atom_53 (by decide) (fun h8 => ?_) (fun h8 => ?_)
        · refine wa_bipush (v := (-102)) (by decide) ?_
          refine wa_ireturn rfl rfl ?_
          exact ⟨_, rfl, rfl, trivial⟩
        · have mh8 := nle_mx h8
          refine wa_iload_n (i := 3) rfl rfl ?_
          refine wa_if_lt o_X11_atom_53 (by decide) (fun h9 => ?_) (fun h9 => ?_)
          · refine wa_bipush (v := (-102)) (by decide) ?_
            refine wa_ireturn rfl rfl ?_
            exact ⟨_, rfl, rfl, trivial⟩
          · refine wa_iload_n (i := 3) rfl rfl ?_
            refine wa_iconst (v := 5) (by decide) ?_
            refine wa_icmp_le o_X11_atom_56 (by decide) (fun h10 => ?_) (fun h10 => ?_)
            · refine wa_aload_n (i := 0) rfl rfl ?_
              refine wa_getr ck_11 fl_11_23 ly_0 rf_0_2 ?_
              refine wa_aload_n (i := 0) rfl rfl ?_
              refine wa_getr ck_11 fl_11_23 ly_0 rf_0_2 ?_
              refine wa_iload_n (i := 1) rfl rfl ?_
              refine wa_iload_n (i := 2) rfl rfl ?_
              refine wa_Vi (d9 := d - 1) [.int _, .int _] [.ref 7] (sp_X2_atomOf G (d := d - 1) (by omega) σ _ _) (rfl) rfl rfl (zr (by omega)) mk_X2_atomOf ly_7 ml_11_273 (Nat.le_of_ble_eq_true rfl) (fun x12 s11 hs11 => ?_)
              obtain ⟨zs11, -⟩ := pI hs11
              subst zs11
              refine wa_iload_n (i := 3) rfl rfl ?_
              refine wa_Vi (d9 := d - 1) [.int _, .int _] [] (sp_X2_pooled G (d := d - 1) (by omega) σ _ _) (rfl) rfl rfl (zr (by omega)) mk_X2_pooled ly_7 ml_11_276 (Nat.le_of_ble_eq_true rfl) (fun x14 s13 hs13 => ?_)
              obtain ⟨zs13, -⟩ := pI hs13
              subst zs13
              refine wa_ireturn rfl rfl ?_
              exact ⟨_, rfl, rfl, trivial⟩
            · refine wa_bipush (v := (-102)) (by decide) ?_
              refine wa_ireturn rfl rfl ?_
              exact ⟨_, rfl, rfl, trivial⟩
    · replace h4 := bI_f (b := bx3) (rfl) h4
      refine wa_bipush (v := (-101)) (by decide) ?_
      refine wa_ireturn rfl rfl ?_
      exact ⟨_, rfl, rfl, trivial⟩
  · replace h1 := bI_t (b := (gb σ 2 8)) (rfl) h1
    refine wa_bipush (v := (-105)) (by decide) ?_
    refine wa_ireturn rfl rfl ?_
    exact ⟨_, rfl, rfl, trivial⟩
set_option maxHeartbeats 4000000 in
theorem sp_X11_printed (G : kG9) {d : Nat} (hd : 1 ≤ d) (σ : St) (a0 : Int32) : Ct G M_X11_printed d [.ref 0, .int a0] σ (fun r σ' => ∃ x : Int32, r = some (.int x) ∧ σ = σ' ∧ True) := by
  refine wa_start (by decide) rfl (Nat.le_of_ble_eq_true rfl) (lv := [(0, .ref 0), (1, .int a0)]) rfl o_X11_printed_0 rfl ?_
  have ua0 := Int32.toInt_lt a0
  have wa0 := Int32.le_toInt a0
  refine wa_aload_n (i := 0) rfl rfl ?_
  refine wa_getr ck_11 fl_11_23 ly_0 rf_0_2 ?_
  refine wa_iload_n (i := 1) rfl rfl ?_
  refine wa_Vi (d9 := d - 1) [.int _] [] (sp_X2_shownByte G (d := d - 1) (by omega) σ _) (rfl) rfl rfl (zr (by omega)) mk_X2_shownByte ly_7 ml_11_283 (Nat.le_of_ble_eq_true rfl) (fun x2 s1 hs1 => ?_)
  obtain ⟨zs1, -⟩ := pI hs1
  subst zs1
  refine wa_ireturn rfl rfl ?_
  exact ⟨_, rfl, rfl, trivial⟩
set_option maxHeartbeats 4000000 in
theorem sp_X11_isFar (G : kG9) {d : Nat} (hd : 0 ≤ d) (σ : St) (a0 : Int32) (a1 : Int64) : Ct G M_X11_isFar d [.ref 0, .int a0, .long a1] σ (fun r σ' => ∃ x : Bool, r = some (.int (bI x)) ∧ σ = σ' ∧ True) := by
  refine wa_start (by decide) rfl (Nat.le_of_ble_eq_true rfl) (lv := [(0, .ref 0), (1, .int a0), (2, .long a1)]) rfl o_X11_isFar_0 rfl ?_
  have ua0 := Int32.toInt_lt a0
  have wa0 := Int32.le_toInt a0
  refine wa_iload_n (i := 1) rfl rfl ?_
  refine wa_aload_n (i := 0) rfl rfl ?_
  refine wa_getr ck_11 fl_11_23 ly_0 rf_0_2 ?_
  refine wa_geti ck_2 fl_11_210 ly_7 ?_
  refine wa_icmp_ge o_X11_isFar_31 (by decide) (fun h1 => ?_) (fun h1 => ?_)
  · refine wa_iconst (v := 0) (by decide) ?_
    refine wa_zreturn false (rfl) rfl rfl ?_
    exact ⟨_, rfl, rfl, trivial⟩
  · have mh1 := nle_mx h1
    refine wa_lload_n (i := 2) rfl rfl ?_
    refine wa_ldc2 (v := (1000000000000)) (allW_in (kT_6 _ (List.mem_of_getElem? (i := 88) rfl)) rfl) ?_
    refine wa_lcmp ?_
    refine wa_top (fun v2 hv2 => ?_)
    have tv2 := i_cmpT hv2
    clear hv2
    refine wa_if_gt o_X11_isFar_27 (by decide) (fun h3 => ?_) (fun h3 => ?_)
    · refine wa_iconst (v := 1) (by decide) ?_
      refine wa_goto o_X11_isFar_32 (by decide) ?_
      refine wa_zreturn true (rfl) rfl rfl ?_
      exact ⟨_, rfl, rfl, trivial⟩
    · refine wa_lload_n (i := 2) rfl rfl ?_
      refine wa_ldc2 (v := (-1000000000000)) (allW_in (kT_6 _ (List.mem_of_getElem? (i := 89) rfl)) rfl) ?_
      refine wa_lcmp ?_
      refine wa_top (fun v4 hv4 => ?_)
      have tv4 := i_cmpT hv4
      clear hv4
      refine wa_if_ge o_X11_isFar_31 (by decide) (fun h5 => ?_) (fun h5 => ?_)
      · refine wa_iconst (v := 0) (by decide) ?_
        refine wa_zreturn false (rfl) rfl rfl ?_
        exact ⟨_, rfl, rfl, trivial⟩
      · refine wa_iconst (v := 1) (by decide) ?_
        refine wa_goto o_X11_isFar_32 (by decide) ?_
        refine wa_zreturn true (rfl) rfl rfl ?_
        exact ⟨_, rfl, rfl, trivial⟩
set_option maxHeartbeats 4000000 in
theorem sp_X11_holds (G : kG9) {d : Nat} (hd : 5 ≤ d) (σ : St) (a0 : Int32) (a1 : Int64) (a2 : Int64) (a3 : Int64) (a4 : Int64) (r1 : 0 ≤ (gi σ 31 13).toInt ∧ (gi σ 31 13).toInt ≤ 3000) (r2 : 0 ≤ (gi σ 41 15).toInt ∧ (gi σ 41 15).toInt ≤ 1100) : Ct G M_X11_holds d [.ref 0, .int a0, .long a1, .long a2, .long a3, .long a4] σ (fun r σ' => ∃ x : Int32, r = some (.int x) ∧ Fm [31, 32, 33, 34, 35, 36, 37, 38, 39, 40, 41, 42, 43] [] σ σ' ∧ (0 ≤ (gi σ' 31 13).toInt ∧ (gi σ' 31 13).toInt ≤ 3000) ∧ (0 ≤ (gi σ' 41 15).toInt ∧ (gi σ' 41 15).toInt ≤ 1100) ∧ True) := by
  refine wa_start (by decide) rfl (Nat.le_of_ble_eq_true rfl) (lv := [(0, .ref 0), (1, .int a0), (2, .long a1), (4, .long a2), (6, .long a3), (8, .long a4)]) rfl o_X11_holds_0 rfl ?_
  have ua0 := Int32.toInt_lt a0
  have wa0 := Int32.le_toInt a0
  refine wa_aload_n (i := 0) rfl rfl ?_
  refine wa_getr ck_11 fl_11_16 ly_0 rf_0_1 ?_
  refine wa_getz ck_1 fl_11_122 ly_2 ?_
  refine wa_if_eq o_X11_holds_13 (by decide) (fun h1 => ?_) (fun h1 => ?_)
  · replace h1 := bI_f (b := (gb σ 2 8)) (rfl) h1
    refine wa_aload_n (i := 0) rfl rfl ?_
    refine wa_getr ck_11 fl_11_23 ly_0 rf_0_2 ?_
    refine wa_iload_n (i := 1) rfl rfl ?_
    refine wa_Vi (d9 := d - 1) [.int _] [] (sp_X2_isClaim G (d := d - 1) (by omega) σ _) (rfl) rfl rfl (zr (by omega)) mk_X2_isClaim ly_7 ml_11_176 (Nat.le_of_ble_eq_true rfl) (fun x3 s2 hs2 => ?_)
    obtain ⟨bx3, ex3, zs2, -⟩ := pB hs2
    subst ex3
    subst zs2
    refine wa_if_ne o_X11_holds_27 (by decide) (fun h4 => ?_) (fun h4 => ?_)
    · replace h4 := bI_t (b := bx3) (rfl) h4
      refine wa_aload_n (i := 0) rfl rfl ?_
      refine wa_iconst (v := 0) (by decide) ?_
      refine wa_lload_n (i := 2) rfl rfl ?_
      refine wa_Vi (d9 := d - 1) [.int _, .long _] [] (sp_X11_isFar G (d := d - 1) (by omega) σ _ _) (rfl) rfl rfl (zr (by omega)) mk_X11_isFar ly_0 ml_11_286 (Nat.le_of_ble_eq_true rfl) (fun x6 s5 hs5 => ?_)
      obtain ⟨bx6, ex6, zs5, -⟩ := pB hs5
      subst ex6
      subst zs5
      refine wa_if_ne o_X11_holds_66 (by decide) (fun h7 => ?_) (fun h7 => ?_)
      · replace h7 := bI_t (b := bx6) (rfl) h7
        refine wa_bipush (v := (-102)) (by decide) ?_
        refine wa_ireturn rfl rfl ?_
        exact ⟨_, rfl, (Fm.rf [31, 32, 33, 34, 35, 36, 37, 38, 39, 40, 41, 42, 43] [] σ), (by first | assumption | (((try simp only [vp_in_iff, Int32.lt_iff_toInt_lt, Int32.le_iff_toInt_le, ← Int32.toInt_inj, Int32.reduceToInt, n_1, n_2, n_8, Int32.toNatClampNeg, Int64.lt_iff_toInt_lt, Int64.le_iff_toInt_le, ← Int64.toInt_inj, Int64.reduceToInt, Int32.toInt_toInt64, lg_cmp_ge, lg_cmp_le, lg_cmp_gt, lg_cmp_lt, lg_cmp_eq, Bool.false_eq_true, Bool.true_eq_false, reduceCtorEq, false_iff, true_iff, iff_true, iff_false, and_true, true_and, and_false, false_and, reduceIte, ite_true, ite_false, eq_self] at *)) <;> omega)), (by first | assumption | (((try simp only [vp_in_iff, Int32.lt_iff_toInt_lt, Int32.le_iff_toInt_le, ← Int32.toInt_inj, Int32.reduceToInt, n_1, n_2, n_8, Int32.toNatClampNeg, Int64.lt_iff_toInt_lt, Int64.le_iff_toInt_le, ← Int64.toInt_inj, Int64.reduceToInt, Int32.toInt_toInt64, lg_cmp_ge, lg_cmp_le, lg_cmp_gt, lg_cmp_lt, lg_cmp_eq, Bool.false_eq_true, Bool.true_eq_false, reduceCtorEq, false_iff, true_iff, iff_true, iff_false, and_true, true_and, and_false, false_and, reduceIte, ite_true, ite_false, eq_self] at *)) <;> omega)), trivial⟩
      · replace h7 := bI_f (b := bx6) (rfl) h7
        refine wa_aload_n (i := 0) rfl rfl ?_
        refine wa_iconst (v := 1) (by decide) ?_
        refine wa_lload rfl ?_
        refine wa_Vi (d9 := d - 1) [.int _, .long _] [] (sp_X11_isFar G (d := d - 1) (by omega) σ _ _) (rfl) rfl rfl (zr (by omega)) mk_X11_isFar ly_0 ml_11_286 (Nat.le_of_ble_eq_true rfl) (fun x9 s8 hs8 => ?_)
        obtain ⟨bx9, ex9, zs8, -⟩ := pB hs8
        subst ex9
        subst zs8
        refine wa_if_ne o_X11_holds_66 (by decide) (fun h10 => ?_) (fun h10 => ?_)
        · replace h10 := bI_t (b := bx9) (rfl) h10
          refine wa_bipush (v := (-102)) (by decide) ?_
          refine wa_ireturn rfl rfl ?_
          exact ⟨_, rfl, (Fm.rf [31, 32, 33, 34, 35, 36, 37, 38, 39, 40, 41, 42, 43] [] σ), (by first | assumption | (((try simp only [vp_in_iff, Int32.lt_iff_toInt_lt, Int32.le_iff_toInt_le, ← Int32.toInt_inj, Int32.reduceToInt, n_1, n_2, n_8, Int32.toNatClampNeg, Int64.lt_iff_toInt_lt, Int64.le_iff_toInt_le, ← Int64.toInt_inj, Int64.reduceToInt, Int32.toInt_toInt64, lg_cmp_ge, lg_cmp_le, lg_cmp_gt, lg_cmp_lt, lg_cmp_eq, Bool.false_eq_true, Bool.true_eq_false, reduceCtorEq, false_iff, true_iff, iff_true, iff_false, and_true, true_and, and_false, false_and, reduceIte, ite_true, ite_false, eq_self] at *)) <;> omega)), (by first | assumption | (((try simp only [vp_in_iff, Int32.lt_iff_toInt_lt, Int32.le_iff_toInt_le, ← Int32.toInt_inj, Int32.reduceToInt, n_1, n_2, n_8, Int32.toNatClampNeg, Int64.lt_iff_toInt_lt, Int64.le_iff_toInt_le, ← Int64.toInt_inj, Int64.reduceToInt, Int32.toInt_toInt64, lg_cmp_ge, lg_cmp_le, lg_cmp_gt, lg_cmp_lt, lg_cmp_eq, Bool.false_eq_true, Bool.true_eq_false, reduceCtorEq, false_iff, true_iff, iff_true, iff_false, and_true, true_and, and_false, false_and, reduceIte, ite_true, ite_false, eq_self] at *)) <;> omega)), trivial⟩
        · replace h10 := bI_f (b := bx9) (rfl) h10
          refine wa_aload_n (i := 0) rfl rfl ?_
          refine wa_iconst (v := 2) (by decide) ?_
          refine wa_lload rfl ?_
          refine wa_Vi (d9 := d - 1) [.int _, .long _] [] (sp_X11_isFar G (d := d - 1) (by omega) σ _ _) (rfl) rfl rfl (zr (by omega)) mk_X11_isFar ly_0 ml_11_286 (Nat.le_of_ble_eq_true rfl) (fun x12 s11 hs11 => ?_)
          obtain ⟨bx12, ex12, zs11, -⟩ := pB hs11
          subst ex12
          subst zs11
          refine wa_if_ne o_X11_holds_66 (by decide) (fun h13 => ?_) (fun h13 => ?_)
          · replace h13 := bI_t (b := bx12) (rfl) h13
            refine wa_bipush (v := (-102)) (by decide) ?_
            refine wa_ireturn rfl rfl ?_
            exact ⟨_, rfl, (Fm.rf [31, 32, 33, 34, 35, 36, 37, 38, 39, 40, 41, 42, 43] [] σ), (by first | assumption | (((try simp only [vp_in_iff, Int32.lt_iff_toInt_lt, Int32.le_iff_toInt_le, ← Int32.toInt_inj, Int32.reduceToInt, n_1, n_2, n_8, Int32.toNatClampNeg, Int64.lt_iff_toInt_lt, Int64.le_iff_toInt_le, ← Int64.toInt_inj, Int64.reduceToInt, Int32.toInt_toInt64, lg_cmp_ge, lg_cmp_le, lg_cmp_gt, lg_cmp_lt, lg_cmp_eq, Bool.false_eq_true, Bool.true_eq_false, reduceCtorEq, false_iff, true_iff, iff_true, iff_false, and_true, true_and, and_false, false_and, reduceIte, ite_true, ite_false, eq_self] at *)) <;> omega)), (by first | assumption | (((try simp only [vp_in_iff, Int32.lt_iff_toInt_lt, Int32.le_iff_toInt_le, ← Int32.toInt_inj, Int32.reduceToInt, n_1, n_2, n_8, Int32.toNatClampNeg, Int64.lt_iff_toInt_lt, Int64.le_iff_toInt_le, ← Int64.toInt_inj, Int64.reduceToInt, Int32.toInt_toInt64, lg_cmp_ge, lg_cmp_le, lg_cmp_gt, lg_cmp_lt, lg_cmp_eq, Bool.false_eq_true, Bool.true_eq_false, reduceCtorEq, false_iff, true_iff, iff_true, iff_false, and_true, true_and, and_false, false_and, reduceIte, ite_true, ite_false, eq_self] at *)) <;> omega)), trivial⟩
          · replace h13 := bI_f (b := bx12) (rfl) h13
            refine wa_aload_n (i := 0) rfl rfl ?_
            refine wa_iconst (v := 3) (by decide) ?_
            refine wa_lload rfl ?_
            refine wa_Vi (d9 := d - 1) [.int _, .long _] [] (sp_X11_isFar G (d := d - 1) (by omega) σ _ _) (rfl) rfl rfl (zr (by omega)) mk_X11_isFar ly_0 ml_11_286 (Nat.le_of_ble_eq_true rfl) (fun x15 s14 hs14 => ?_)
            obtain ⟨bx15, ex15, zs14, -⟩ := pB hs14
            subst ex15
            subst zs14
            refine wa_if_eq o_X11_holds_69 (by decide) (fun h16 => ?_) (fun h16 => ?_)
            · replace h16 := bI_f (b := bx15) (rfl) h16
              refine wa_aload_n (i := 0) rfl rfl ?_
              refine wa_getr ck_11 fl_11_64 ly_0 rf_0_7 ?_
              refine wa_iload_n (i := 1) rfl rfl ?_
              refine wa_lload_n (i := 2) rfl rfl ?_
              refine wa_lload rfl ?_
              refine wa_lload rfl ?_
              refine wa_lload rfl ?_
              refine wa_Vi (d9 := d - 1) [.int _, .long _, .long _, .long _, .long _] [] (sp_X0_isSoFor G (d := d - 1) (by omega) σ _ _ _ _ _ (by first | assumption | exact Or.inl rfl | exact Or.inr rfl | (((try simp only [vp_in_iff, Int32.lt_iff_toInt_lt, Int32.le_iff_toInt_le, ← Int32.toInt_inj, Int32.reduceToInt, n_1, n_2, n_8, Int32.toNatClampNeg, Int64.lt_iff_toInt_lt, Int64.le_iff_toInt_le, ← Int64.toInt_inj, Int64.reduceToInt, Int32.toInt_toInt64, lg_cmp_ge, lg_cmp_le, lg_cmp_gt, lg_cmp_lt, lg_cmp_eq, Bool.false_eq_true, Bool.true_eq_false, reduceCtorEq, false_iff, true_iff, iff_true, iff_false, and_true, true_and, and_false, false_and, reduceIte, ite_true, ite_false, eq_self] at *)) <;> omega)) (by first | assumption | exact Or.inl rfl | exact Or.inr rfl | (((try simp only [vp_in_iff, Int32.lt_iff_toInt_lt, Int32.le_iff_toInt_le, ← Int32.toInt_inj, Int32.reduceToInt, n_1, n_2, n_8, Int32.toNatClampNeg, Int64.lt_iff_toInt_lt, Int64.le_iff_toInt_le, ← Int64.toInt_inj, Int64.reduceToInt, Int32.toInt_toInt64, lg_cmp_ge, lg_cmp_le, lg_cmp_gt, lg_cmp_lt, lg_cmp_eq, Bool.false_eq_true, Bool.true_eq_false, reduceCtorEq, false_iff, true_iff, iff_true, iff_false, and_true, true_and, and_false, false_and, reduceIte, ite_true, ite_false, eq_self] at *)) <;> omega))) (rfl) rfl rfl (zr (by omega)) mk_X0_isSoFor ly_41 ml_11_290 (Nat.le_of_ble_eq_true rfl) (fun x18 s17 hs17 => ?_)
              obtain ⟨bx18, ex18, fs17, cx18_1, cx18_2, -⟩ := pB hs17
              subst ex18
              have Fs17 : Fm [31, 32, 33, 34, 35, 36, 37, 38, 39, 40, 41, 42, 43] [] σ s17 := Fm.tr (Fm.rf [31, 32, 33, 34, 35, 36, 37, 38, 39, 40, 41, 42, 43] [] σ) (Fm.ofSm fs17 rfl)
              refine wa_if_eq o_X11_holds_91 (by decide) (fun h19 => ?_) (fun h19 => ?_)
              · replace h19 := bI_f (b := bx18) (rfl) h19
                refine wa_iconst (v := 0) (by decide) ?_
                refine wa_ireturn rfl rfl ?_
                exact ⟨_, rfl, Fs17, (by first | assumption | (((try simp only [vp_in_iff, Int32.lt_iff_toInt_lt, Int32.le_iff_toInt_le, ← Int32.toInt_inj, Int32.reduceToInt, n_1, n_2, n_8, Int32.toNatClampNeg, Int64.lt_iff_toInt_lt, Int64.le_iff_toInt_le, ← Int64.toInt_inj, Int64.reduceToInt, Int32.toInt_toInt64, lg_cmp_ge, lg_cmp_le, lg_cmp_gt, lg_cmp_lt, lg_cmp_eq, Bool.false_eq_true, Bool.true_eq_false, reduceCtorEq, false_iff, true_iff, iff_true, iff_false, and_true, true_and, and_false, false_and, reduceIte, ite_true, ite_false, eq_self] at *)) <;> omega)), (by first | assumption | (((try simp only [vp_in_iff, Int32.lt_iff_toInt_lt, Int32.le_iff_toInt_le, ← Int32.toInt_inj, Int32.reduceToInt, n_1, n_2, n_8, Int32.toNatClampNeg, Int64.lt_iff_toInt_lt, Int64.le_iff_toInt_le, ← Int64.toInt_inj, Int64.reduceToInt, Int32.toInt_toInt64, lg_cmp_ge, lg_cmp_le, lg_cmp_gt, lg_cmp_lt, lg_cmp_eq, Bool.false_eq_true, Bool.true_eq_false, reduceCtorEq, false_iff, true_iff, iff_true, iff_false, and_true, true_and, and_false, false_and, reduceIte, ite_true, ite_false, eq_self] at *)) <;> omega)), trivial⟩
              · replace h19 := bI_t (b := bx18) (rfl) h19
                refine wa_iconst (v := 1) (by decide) ?_
                refine wa_goto o_X11_holds_92 (by decide) ?_
                refine wa_ireturn rfl rfl ?_
                exact ⟨_, rfl, Fs17, (by first | assumption | (((try simp only [vp_in_iff, Int32.lt_iff_toInt_lt, Int32.le_iff_toInt_le, ← Int32.toInt_inj, Int32.reduceToInt, n_1, n_2, n_8, Int32.toNatClampNeg, Int64.lt_iff_toInt_lt, Int64.le_iff_toInt_le, ← Int64.toInt_inj, Int64.reduceToInt, Int32.toInt_toInt64, lg_cmp_ge, lg_cmp_le, lg_cmp_gt, lg_cmp_lt, lg_cmp_eq, Bool.false_eq_true, Bool.true_eq_false, reduceCtorEq, false_iff, true_iff, iff_true, iff_false, and_true, true_and, and_false, false_and, reduceIte, ite_true, ite_false, eq_self] at *)) <;> omega)), (by first | assumption | (((try simp only [vp_in_iff, Int32.lt_iff_toInt_lt, Int32.le_iff_toInt_le, ← Int32.toInt_inj, Int32.reduceToInt, n_1, n_2, n_8, Int32.toNatClampNeg, Int64.lt_iff_toInt_lt, Int64.le_iff_toInt_le, ← Int64.toInt_inj, Int64.reduceToInt, Int32.toInt_toInt64, lg_cmp_ge, lg_cmp_le, lg_cmp_gt, lg_cmp_lt, lg_cmp_eq, Bool.false_eq_true, Bool.true_eq_false, reduceCtorEq, false_iff, true_iff, iff_true, iff_false, and_true, true_and, and_false, false_and, reduceIte, ite_true, ite_false, eq_self] at *)) <;> omega)), trivial⟩
            · replace h16 := bI_t (b := bx15) (rfl) h16
              refine wa_bipush (v := (-102)) (by decide) ?_
              refine wa_ireturn rfl rfl ?_
              exact ⟨_, rfl, (Fm.rf [31, 32, 33, 34, 35, 36, 37, 38, 39, 40, 41, 42, 43] [] σ), (by first | assumption | (((try simp only [vp_in_iff, Int32.lt_iff_toInt_lt, Int32.le_iff_toInt_le, ← Int32.toInt_inj, Int32.reduceToInt, n_1, n_2, n_8, Int32.toNatClampNeg, Int64.lt_iff_toInt_lt, Int64.le_iff_toInt_le, ← Int64.toInt_inj, Int64.reduceToInt, Int32.toInt_toInt64, lg_cmp_ge, lg_cmp_le, lg_cmp_gt, lg_cmp_lt, lg_cmp_eq, Bool.false_eq_true, Bool.true_eq_false, reduceCtorEq, false_iff, true_iff, iff_true, iff_false, and_true, true_and, and_false, false_and, reduceIte, ite_true, ite_false, eq_self] at *)) <;> omega)), (by first | assumption | (((try simp only [vp_in_iff, Int32.lt_iff_toInt_lt, Int32.le_iff_toInt_le, ← Int32.toInt_inj, Int32.reduceToInt, n_1, n_2, n_8, Int32.toNatClampNeg, Int64.lt_iff_toInt_lt, Int64.le_iff_toInt_le, ← Int64.toInt_inj, Int64.reduceToInt, Int32.toInt_toInt64, lg_cmp_ge, lg_cmp_le, lg_cmp_gt, lg_cmp_lt, lg_cmp_eq, Bool.false_eq_true, Bool.true_eq_false, reduceCtorEq, false_iff, true_iff, iff_true, iff_false, and_true, true_and, and_false, false_and, reduceIte, ite_true, ite_false, eq_self] at *)) <;> omega)), trivial⟩
    · replace h4 := bI_f (b := bx3) (rfl) h4
      refine wa_bipush (v := (-101)) (by decide) ?_
      refine wa_ireturn rfl rfl ?_
      exact ⟨_, rfl, (Fm.rf [31, 32, 33, 34, 35, 36, 37, 38, 39, 40, 41, 42, 43] [] σ), (by first | assumption | (((try simp only [vp_in_iff, Int32.lt_iff_toInt_lt, Int32.le_iff_toInt_le, ← Int32.toInt_inj, Int32.reduceToInt, n_1, n_2, n_8, Int32.toNatClampNeg, Int64.lt_iff_toInt_lt, Int64.le_iff_toInt_le, ← Int64.toInt_inj, Int64.reduceToInt, Int32.toInt_toInt64, lg_cmp_ge, lg_cmp_le, lg_cmp_gt, lg_cmp_lt, lg_cmp_eq, Bool.false_eq_true, Bool.true_eq_false, reduceCtorEq, false_iff, true_iff, iff_true, iff_false, and_true, true_and, and_false, false_and, reduceIte, ite_true, ite_false, eq_self] at *)) <;> omega)), (by first | assumption | (((try simp only [vp_in_iff, Int32.lt_iff_toInt_lt, Int32.le_iff_toInt_le, ← Int32.toInt_inj, Int32.reduceToInt, n_1, n_2, n_8, Int32.toNatClampNeg, Int64.lt_iff_toInt_lt, Int64.le_iff_toInt_le, ← Int64.toInt_inj, Int64.reduceToInt, Int32.toInt_toInt64, lg_cmp_ge, lg_cmp_le, lg_cmp_gt, lg_cmp_lt, lg_cmp_eq, Bool.false_eq_true, Bool.true_eq_false, reduceCtorEq, false_iff, true_iff, iff_true, iff_false, and_true, true_and, and_false, false_and, reduceIte, ite_true, ite_false, eq_self] at *)) <;> omega)), trivial⟩
  · replace h1 := bI_t (b := (gb σ 2 8)) (rfl) h1
    refine wa_bipush (v := (-105)) (by decide) ?_
    refine wa_ireturn rfl rfl ?_
    exact ⟨_, rfl, (Fm.rf [31, 32, 33, 34, 35, 36, 37, 38, 39, 40, 41, 42, 43] [] σ), (by first | assumption | (((try simp only [vp_in_iff, Int32.lt_iff_toInt_lt, Int32.le_iff_toInt_le, ← Int32.toInt_inj, Int32.reduceToInt, n_1, n_2, n_8, Int32.toNatClampNeg, Int64.lt_iff_toInt_lt, Int64.le_iff_toInt_le, ← Int64.toInt_inj, Int64.reduceToInt, Int32.toInt_toInt64, lg_cmp_ge, lg_cmp_le, lg_cmp_gt, lg_cmp_lt, lg_cmp_eq, Bool.false_eq_true, Bool.true_eq_false, reduceCtorEq, false_iff, true_iff, iff_true, iff_false, and_true, true_and, and_false, false_and, reduceIte, ite_true, ite_false, eq_self] at *)) <;> omega)), (by first | assumption | (((try simp only [vp_in_iff, Int32.lt_iff_toInt_lt, Int32.le_iff_toInt_le, ← Int32.toInt_inj, Int32.reduceToInt, n_1, n_2, n_8, Int32.toNatClampNeg, Int64.lt_iff_toInt_lt, Int64.le_iff_toInt_le, ← Int64.toInt_inj, Int64.reduceToInt, Int32.toInt_toInt64, lg_cmp_ge, lg_cmp_le, lg_cmp_gt, lg_cmp_lt, lg_cmp_eq, Bool.false_eq_true, Bool.true_eq_false, reduceCtorEq, false_iff, true_iff, iff_true, iff_false, and_true, true_and, and_false, false_and, reduceIte, ite_true, ite_false, eq_self] at *)) <;> omega)), trivial⟩
set_option maxHeartbeats 4000000 in
theorem sp_X11_decide (G : kG9) {d : Nat} (hd : 5 ≤ d) (σ : St) (r1 : 0 ≤ (gi σ 31 13).toInt ∧ (gi σ 31 13).toInt ≤ 3000) (r2 : 0 ≤ (gi σ 41 15).toInt ∧ (gi σ 41 15).toInt ≤ 1100) : Ct G M_X11_decide d [.ref 0] σ (fun r σ' => ∃ x : Int32, r = some (.int x) ∧ Fm [31, 32, 33, 34, 35, 36, 37, 38, 39, 40, 41, 42, 43, 44, 45] [] σ σ' ∧ (0 ≤ (gi σ' 31 13).toInt ∧ (gi σ' 31 13).toInt ≤ 3000) ∧ (0 ≤ (gi σ' 41 15).toInt ∧ (gi σ' 41 15).toInt ≤ 1100) ∧ True) := by
  refine wa_start (by decide) rfl (Nat.le_of_ble_eq_true rfl) (lv := [(0, .ref 0)]) rfl o_X11_decide_0 rfl ?_
  refine wa_aload_n (i := 0) rfl rfl ?_
  refine wa_getr ck_11 fl_11_16 ly_0 rf_0_1 ?_
  refine wa_getz ck_1 fl_11_122 ly_2 ?_
  refine wa_if_eq o_X11_decide_13 (by decide) (fun h1 => ?_) (fun h1 => ?_)
  · replace h1 := bI_f (b := (gb σ 2 8)) (rfl) h1
    refine wa_aload_n (i := 0) rfl rfl ?_
    refine wa_getr ck_11 fl_11_55 ly_0 rf_0_6 ?_
    refine wa_aload_n (i := 0) rfl rfl ?_
    refine wa_getr ck_11 fl_11_23 ly_0 rf_0_2 ?_
    refine wa_geti ck_2 fl_11_213 ly_7 ?_
    refine wa_Vi (d9 := d - 1) [.int _] [] (sp_X6_judge G (d := d - 1) (by omega) σ _ (by first | assumption | exact Or.inl rfl | exact Or.inr rfl | (((try simp only [vp_in_iff, Int32.lt_iff_toInt_lt, Int32.le_iff_toInt_le, ← Int32.toInt_inj, Int32.reduceToInt, n_1, n_2, n_8, Int32.toNatClampNeg, Int64.lt_iff_toInt_lt, Int64.le_iff_toInt_le, ← Int64.toInt_inj, Int64.reduceToInt, Int32.toInt_toInt64, lg_cmp_ge, lg_cmp_le, lg_cmp_gt, lg_cmp_lt, lg_cmp_eq, Bool.false_eq_true, Bool.true_eq_false, reduceCtorEq, false_iff, true_iff, iff_true, iff_false, and_true, true_and, and_false, false_and, reduceIte, ite_true, ite_false, eq_self] at *)) <;> omega))) (rfl) rfl rfl (zr (by omega)) mk_X6_judge ly_31 ml_11_298 (Nat.le_of_ble_eq_true rfl) (fun x3 s2 hs2 => ?_)
    obtain ⟨bx3, ex3, fs2, cx3_1, -⟩ := pB hs2
    subst ex3
    have Fs2 : Fm [31, 32, 33, 34, 35, 36, 37, 38, 39, 40, 41, 42, 43, 44, 45] [] σ s2 := Fm.tr (Fm.rf [31, 32, 33, 34, 35, 36, 37, 38, 39, 40, 41, 42, 43, 44, 45] [] σ) (Fm.ofSm fs2 rfl)
    refine wa_if_ne o_X11_decide_33 (by decide) (fun h4 => ?_) (fun h4 => ?_)
    · replace h4 := bI_t (b := bx3) (rfl) h4
      refine wa_aload_n (i := 0) rfl rfl ?_
      refine wa_getr ck_11 fl_11_64 ly_0 rf_0_7 ?_
      refine wa_aload_n (i := 0) rfl rfl ?_
      refine wa_getr ck_11 fl_11_23 ly_0 rf_0_2 ?_
      refine wa_geti ck_2 fl_11_213 ly_7 ?_
      refine wa_rw (Sm.gi fs2 13 (Or.inl (by decide))) ?_
      refine wa_iconst (v := 0) (by decide) ?_
      refine wa_Vi (d9 := d - 1) [.int _, .int _] [] (sp_X0_tellLeast G (d := d - 1) (by omega) s2 _ _ (by first | assumption | exact Or.inl rfl | exact Or.inr rfl | (((try simp only [vp_in_iff, Int32.lt_iff_toInt_lt, Int32.le_iff_toInt_le, ← Int32.toInt_inj, Int32.reduceToInt, n_1, n_2, n_8, Int32.toNatClampNeg, Int64.lt_iff_toInt_lt, Int64.le_iff_toInt_le, ← Int64.toInt_inj, Int64.reduceToInt, Int32.toInt_toInt64, lg_cmp_ge, lg_cmp_le, lg_cmp_gt, lg_cmp_lt, lg_cmp_eq, Bool.false_eq_true, Bool.true_eq_false, reduceCtorEq, false_iff, true_iff, iff_true, iff_false, and_true, true_and, and_false, false_and, reduceIte, ite_true, ite_false, eq_self] at *)) <;> omega)) (by rw [Sm.gi fs2 15 (Or.inr (by decide))]; first | assumption | exact Or.inl rfl | exact Or.inr rfl | (((try simp only [vp_in_iff, Int32.lt_iff_toInt_lt, Int32.le_iff_toInt_le, ← Int32.toInt_inj, Int32.reduceToInt, n_1, n_2, n_8, Int32.toNatClampNeg, Int64.lt_iff_toInt_lt, Int64.le_iff_toInt_le, ← Int64.toInt_inj, Int64.reduceToInt, Int32.toInt_toInt64, lg_cmp_ge, lg_cmp_le, lg_cmp_gt, lg_cmp_lt, lg_cmp_eq, Bool.false_eq_true, Bool.true_eq_false, reduceCtorEq, false_iff, true_iff, iff_true, iff_false, and_true, true_and, and_false, false_and, reduceIte, ite_true, ite_false, eq_self] at *)) <;> omega))) (rfl) rfl rfl (zr (by omega)) mk_X0_tellLeast ly_41 ml_11_301 (Nat.le_of_ble_eq_true rfl) (fun x6 s5 hs5 => ?_)
      obtain ⟨bx6, ex6, fs5, cx6_1, -⟩ := pB hs5
      subst ex6
      have Fs5 : Fm [31, 32, 33, 34, 35, 36, 37, 38, 39, 40, 41, 42, 43, 44, 45] [] σ s5 := Fm.tr Fs2 (Fm.ofSm fs5 rfl)
      refine wa_if_eq o_X11_decide_55 (by decide) (fun h7 => ?_) (fun h7 => ?_)
      · replace h7 := bI_f (b := bx6) (rfl) h7
        refine wa_iconst (v := 0) (by decide) ?_
        refine wa_ireturn rfl rfl ?_
        exact ⟨_, rfl, Fs5, (by rw [Sm.gi fs5 13 (Or.inl (by decide))]; first | assumption | (((try simp only [vp_in_iff, Int32.lt_iff_toInt_lt, Int32.le_iff_toInt_le, ← Int32.toInt_inj, Int32.reduceToInt, n_1, n_2, n_8, Int32.toNatClampNeg, Int64.lt_iff_toInt_lt, Int64.le_iff_toInt_le, ← Int64.toInt_inj, Int64.reduceToInt, Int32.toInt_toInt64, lg_cmp_ge, lg_cmp_le, lg_cmp_gt, lg_cmp_lt, lg_cmp_eq, Bool.false_eq_true, Bool.true_eq_false, reduceCtorEq, false_iff, true_iff, iff_true, iff_false, and_true, true_and, and_false, false_and, reduceIte, ite_true, ite_false, eq_self] at *)) <;> omega)), (by first | assumption | (((try simp only [vp_in_iff, Int32.lt_iff_toInt_lt, Int32.le_iff_toInt_le, ← Int32.toInt_inj, Int32.reduceToInt, n_1, n_2, n_8, Int32.toNatClampNeg, Int64.lt_iff_toInt_lt, Int64.le_iff_toInt_le, ← Int64.toInt_inj, Int64.reduceToInt, Int32.toInt_toInt64, lg_cmp_ge, lg_cmp_le, lg_cmp_gt, lg_cmp_lt, lg_cmp_eq, Bool.false_eq_true, Bool.true_eq_false, reduceCtorEq, false_iff, true_iff, iff_true, iff_false, and_true, true_and, and_false, false_and, reduceIte, ite_true, ite_false, eq_self] at *)) <;> omega)), trivial⟩
      · replace h7 := bI_t (b := bx6) (rfl) h7
        refine wa_iconst (v := 1) (by decide) ?_
        refine wa_goto o_X11_decide_56 (by decide) ?_
        refine wa_ireturn rfl rfl ?_
        exact ⟨_, rfl, Fs5, (by rw [Sm.gi fs5 13 (Or.inl (by decide))]; first | assumption | (((try simp only [vp_in_iff, Int32.lt_iff_toInt_lt, Int32.le_iff_toInt_le, ← Int32.toInt_inj, Int32.reduceToInt, n_1, n_2, n_8, Int32.toNatClampNeg, Int64.lt_iff_toInt_lt, Int64.le_iff_toInt_le, ← Int64.toInt_inj, Int64.reduceToInt, Int32.toInt_toInt64, lg_cmp_ge, lg_cmp_le, lg_cmp_gt, lg_cmp_lt, lg_cmp_eq, Bool.false_eq_true, Bool.true_eq_false, reduceCtorEq, false_iff, true_iff, iff_true, iff_false, and_true, true_and, and_false, false_and, reduceIte, ite_true, ite_false, eq_self] at *)) <;> omega)), (by first | assumption | (((try simp only [vp_in_iff, Int32.lt_iff_toInt_lt, Int32.le_iff_toInt_le, ← Int32.toInt_inj, Int32.reduceToInt, n_1, n_2, n_8, Int32.toNatClampNeg, Int64.lt_iff_toInt_lt, Int64.le_iff_toInt_le, ← Int64.toInt_inj, Int64.reduceToInt, Int32.toInt_toInt64, lg_cmp_ge, lg_cmp_le, lg_cmp_gt, lg_cmp_lt, lg_cmp_eq, Bool.false_eq_true, Bool.true_eq_false, reduceCtorEq, false_iff, true_iff, iff_true, iff_false, and_true, true_and, and_false, false_and, reduceIte, ite_true, ite_false, eq_self] at *)) <;> omega)), trivial⟩
    · replace h4 := bI_f (b := bx3) (rfl) h4
      refine wa_bipush (v := (-107)) (by decide) ?_
      refine wa_ireturn rfl rfl ?_
      exact ⟨_, rfl, Fs2, (by first | assumption | (((try simp only [vp_in_iff, Int32.lt_iff_toInt_lt, Int32.le_iff_toInt_le, ← Int32.toInt_inj, Int32.reduceToInt, n_1, n_2, n_8, Int32.toNatClampNeg, Int64.lt_iff_toInt_lt, Int64.le_iff_toInt_le, ← Int64.toInt_inj, Int64.reduceToInt, Int32.toInt_toInt64, lg_cmp_ge, lg_cmp_le, lg_cmp_gt, lg_cmp_lt, lg_cmp_eq, Bool.false_eq_true, Bool.true_eq_false, reduceCtorEq, false_iff, true_iff, iff_true, iff_false, and_true, true_and, and_false, false_and, reduceIte, ite_true, ite_false, eq_self] at *)) <;> omega)), (by rw [Sm.gi fs2 15 (Or.inr (by decide))]; first | assumption | (((try simp only [vp_in_iff, Int32.lt_iff_toInt_lt, Int32.le_iff_toInt_le, ← Int32.toInt_inj, Int32.reduceToInt, n_1, n_2, n_8, Int32.toNatClampNeg, Int64.lt_iff_toInt_lt, Int64.le_iff_toInt_le, ← Int64.toInt_inj, Int64.reduceToInt, Int32.toInt_toInt64, lg_cmp_ge, lg_cmp_le, lg_cmp_gt, lg_cmp_lt, lg_cmp_eq, Bool.false_eq_true, Bool.true_eq_false, reduceCtorEq, false_iff, true_iff, iff_true, iff_false, and_true, true_and, and_false, false_and, reduceIte, ite_true, ite_false, eq_self] at *)) <;> omega)), trivial⟩
  · replace h1 := bI_t (b := (gb σ 2 8)) (rfl) h1
    refine wa_bipush (v := (-105)) (by decide) ?_
    refine wa_ireturn rfl rfl ?_
    exact ⟨_, rfl, (Fm.rf [31, 32, 33, 34, 35, 36, 37, 38, 39, 40, 41, 42, 43, 44, 45] [] σ), (by first | assumption | (((try simp only [vp_in_iff, Int32.lt_iff_toInt_lt, Int32.le_iff_toInt_le, ← Int32.toInt_inj, Int32.reduceToInt, n_1, n_2, n_8, Int32.toNatClampNeg, Int64.lt_iff_toInt_lt, Int64.le_iff_toInt_le, ← Int64.toInt_inj, Int64.reduceToInt, Int32.toInt_toInt64, lg_cmp_ge, lg_cmp_le, lg_cmp_gt, lg_cmp_lt, lg_cmp_eq, Bool.false_eq_true, Bool.true_eq_false, reduceCtorEq, false_iff, true_iff, iff_true, iff_false, and_true, true_and, and_false, false_and, reduceIte, ite_true, ite_false, eq_self] at *)) <;> omega)), (by first | assumption | (((try simp only [vp_in_iff, Int32.lt_iff_toInt_lt, Int32.le_iff_toInt_le, ← Int32.toInt_inj, Int32.reduceToInt, n_1, n_2, n_8, Int32.toNatClampNeg, Int64.lt_iff_toInt_lt, Int64.le_iff_toInt_le, ← Int64.toInt_inj, Int64.reduceToInt, Int32.toInt_toInt64, lg_cmp_ge, lg_cmp_le, lg_cmp_gt, lg_cmp_lt, lg_cmp_eq, Bool.false_eq_true, Bool.true_eq_false, reduceCtorEq, false_iff, true_iff, iff_true, iff_false, and_true, true_and, and_false, false_and, reduceIte, ite_true, ite_false, eq_self] at *)) <;> omega)), trivial⟩
set_option maxHeartbeats 4000000 in
theorem sp_X11_height (G : kG9) {d : Nat} (hd : 0 ≤ d) (σ : St) : Ct G M_X11_height d [.ref 0] σ (fun r σ' => ∃ x : Int32, r = some (.int x) ∧ σ = σ' ∧ True) := by
  refine wa_start (by decide) rfl (Nat.le_of_ble_eq_true rfl) (lv := [(0, .ref 0)]) rfl o_X11_height_0 rfl ?_
  refine wa_aload_n (i := 0) rfl rfl ?_
  refine wa_getr ck_11 fl_11_64 ly_0 rf_0_7 ?_
  refine wa_geti ck_0 fl_11_318 ly_41 ?_
  refine wa_ireturn rfl rfl ?_
  exact ⟨_, rfl, rfl, trivial⟩
set_option maxHeartbeats 4000000 in
theorem sp_X11_number (G : kG9) {d : Nat} (hd : 0 ≤ d) (σ : St) : Ct G M_X11_number d [.ref 0] σ (fun r σ' => ∃ x : Int64, r = some (.long x) ∧ σ = σ' ∧ True) := by
  refine wa_start (by decide) rfl (Nat.le_of_ble_eq_true rfl) (lv := [(0, .ref 0)]) rfl o_X11_number_0 rfl ?_
  refine wa_aload_n (i := 0) rfl rfl ?_
  refine wa_getr ck_11 fl_11_64 ly_0 rf_0_7 ?_
  refine wa_getl ck_0 fl_11_335 ly_41 ?_
  refine wa_lreturn rfl rfl ?_
  exact ⟨_, rfl, rfl, trivial⟩
set_option maxHeartbeats 4000000 in
theorem sp_X11_many (G : kG9) {d : Nat} (hd : 5 ≤ d) (σ : St) (r1 : 0 ≤ (gi σ 31 13).toInt ∧ (gi σ 31 13).toInt ≤ 3000) : Ct G M_X11_many d [.ref 0] σ (fun r σ' => ∃ x : Int32, r = some (.int x) ∧ Fm [31, 32, 33, 34, 35, 36, 37, 38, 39, 40, 44, 45, 46, 47, 48] [] σ σ' ∧ (0 ≤ (gi σ' 31 13).toInt ∧ (gi σ' 31 13).toInt ≤ 3000) ∧ True) := by
  refine wa_start (by decide) rfl (Nat.le_of_ble_eq_true rfl) (lv := [(0, .ref 0)]) rfl o_X11_many_0 rfl ?_
  refine wa_aload_n (i := 0) rfl rfl ?_
  refine wa_getr ck_11 fl_11_16 ly_0 rf_0_1 ?_
  refine wa_getz ck_1 fl_11_122 ly_2 ?_
  refine wa_if_eq o_X11_many_13 (by decide) (fun h1 => ?_) (fun h1 => ?_)
  · replace h1 := bI_f (b := (gb σ 2 8)) (rfl) h1
    refine wa_aload_n (i := 0) rfl rfl ?_
    refine wa_getr ck_11 fl_11_55 ly_0 rf_0_6 ?_
    refine wa_aload_n (i := 0) rfl rfl ?_
    refine wa_getr ck_11 fl_11_23 ly_0 rf_0_2 ?_
    refine wa_geti ck_2 fl_11_213 ly_7 ?_
    refine wa_Vi (d9 := d - 1) [.int _] [] (sp_X6_judge G (d := d - 1) (by omega) σ _ (by first | assumption | exact Or.inl rfl | exact Or.inr rfl | (((try simp only [vp_in_iff, Int32.lt_iff_toInt_lt, Int32.le_iff_toInt_le, ← Int32.toInt_inj, Int32.reduceToInt, n_1, n_2, n_8, Int32.toNatClampNeg, Int64.lt_iff_toInt_lt, Int64.le_iff_toInt_le, ← Int64.toInt_inj, Int64.reduceToInt, Int32.toInt_toInt64, lg_cmp_ge, lg_cmp_le, lg_cmp_gt, lg_cmp_lt, lg_cmp_eq, Bool.false_eq_true, Bool.true_eq_false, reduceCtorEq, false_iff, true_iff, iff_true, iff_false, and_true, true_and, and_false, false_and, reduceIte, ite_true, ite_false, eq_self] at *)) <;> omega))) (rfl) rfl rfl (zr (by omega)) mk_X6_judge ly_31 ml_11_298 (Nat.le_of_ble_eq_true rfl) (fun x3 s2 hs2 => ?_)
    obtain ⟨bx3, ex3, fs2, cx3_1, -⟩ := pB hs2
    subst ex3
    have Fs2 : Fm [31, 32, 33, 34, 35, 36, 37, 38, 39, 40, 44, 45, 46, 47, 48] [] σ s2 := Fm.tr (Fm.rf [31, 32, 33, 34, 35, 36, 37, 38, 39, 40, 44, 45, 46, 47, 48] [] σ) (Fm.ofSm fs2 rfl)
    refine wa_if_eq o_X11_many_47 (by decide) (fun h4 => ?_) (fun h4 => ?_)
    · replace h4 := bI_f (b := bx3) (rfl) h4
      refine wa_bipush (v := (-107)) (by decide) ?_
      refine wa_ireturn rfl rfl ?_
      exact ⟨_, rfl, Fs2, (by first | assumption | (((try simp only [vp_in_iff, Int32.lt_iff_toInt_lt, Int32.le_iff_toInt_le, ← Int32.toInt_inj, Int32.reduceToInt, n_1, n_2, n_8, Int32.toNatClampNeg, Int64.lt_iff_toInt_lt, Int64.le_iff_toInt_le, ← Int64.toInt_inj, Int64.reduceToInt, Int32.toInt_toInt64, lg_cmp_ge, lg_cmp_le, lg_cmp_gt, lg_cmp_lt, lg_cmp_eq, Bool.false_eq_true, Bool.true_eq_false, reduceCtorEq, false_iff, true_iff, iff_true, iff_false, and_true, true_and, and_false, false_and, reduceIte, ite_true, ite_false, eq_self] at *)) <;> omega)), trivial⟩
    · replace h4 := bI_t (b := bx3) (rfl) h4
      refine wa_aload_n (i := 0) rfl rfl ?_
      refine wa_getr ck_11 fl_11_64 ly_0 rf_0_7 ?_
      refine wa_aload_n (i := 0) rfl rfl ?_
      refine wa_getr ck_11 fl_11_23 ly_0 rf_0_2 ?_
      refine wa_geti ck_2 fl_11_213 ly_7 ?_
      refine wa_rw (Sm.gi fs2 13 (Or.inl (by decide))) ?_
      refine wa_Vi (d9 := d - 1) [.int _] [] (sp_X0_howMany G (d := d - 1) (by omega) s2 _ (by first | assumption | exact Or.inl rfl | exact Or.inr rfl | (((try simp only [vp_in_iff, Int32.lt_iff_toInt_lt, Int32.le_iff_toInt_le, ← Int32.toInt_inj, Int32.reduceToInt, n_1, n_2, n_8, Int32.toNatClampNeg, Int64.lt_iff_toInt_lt, Int64.le_iff_toInt_le, ← Int64.toInt_inj, Int64.reduceToInt, Int32.toInt_toInt64, lg_cmp_ge, lg_cmp_le, lg_cmp_gt, lg_cmp_lt, lg_cmp_eq, Bool.false_eq_true, Bool.true_eq_false, reduceCtorEq, false_iff, true_iff, iff_true, iff_false, and_true, true_and, and_false, false_and, reduceIte, ite_true, ite_false, eq_self] at *)) <;> omega))) (rfl) rfl rfl (zr (by omega)) mk_X0_howMany ly_41 ml_11_339 (Nat.le_of_ble_eq_true rfl) (fun x6 s5 hs5 => ?_)
      obtain ⟨fs5, -⟩ := pI hs5
      have Fs5 : Fm [31, 32, 33, 34, 35, 36, 37, 38, 39, 40, 44, 45, 46, 47, 48] [] σ s5 := Fm.tr Fs2 (Fm.ofSm fs5 rfl)
      refine wa_goto o_X11_many_49 (by decide) ?_
      refine wa_ireturn rfl rfl ?_
      exact ⟨_, rfl, Fs5, (by rw [Sm.gi fs5 13 (Or.inl (by decide))]; first | assumption | (((try simp only [vp_in_iff, Int32.lt_iff_toInt_lt, Int32.le_iff_toInt_le, ← Int32.toInt_inj, Int32.reduceToInt, n_1, n_2, n_8, Int32.toNatClampNeg, Int64.lt_iff_toInt_lt, Int64.le_iff_toInt_le, ← Int64.toInt_inj, Int64.reduceToInt, Int32.toInt_toInt64, lg_cmp_ge, lg_cmp_le, lg_cmp_gt, lg_cmp_lt, lg_cmp_eq, Bool.false_eq_true, Bool.true_eq_false, reduceCtorEq, false_iff, true_iff, iff_true, iff_false, and_true, true_and, and_false, false_and, reduceIte, ite_true, ite_false, eq_self] at *)) <;> omega)), trivial⟩
  · replace h1 := bI_t (b := (gb σ 2 8)) (rfl) h1
    refine wa_bipush (v := (-105)) (by decide) ?_
    refine wa_ireturn rfl rfl ?_
    exact ⟨_, rfl, (Fm.rf [31, 32, 33, 34, 35, 36, 37, 38, 39, 40, 44, 45, 46, 47, 48] [] σ), (by first | assumption | (((try simp only [vp_in_iff, Int32.lt_iff_toInt_lt, Int32.le_iff_toInt_le, ← Int32.toInt_inj, Int32.reduceToInt, n_1, n_2, n_8, Int32.toNatClampNeg, Int64.lt_iff_toInt_lt, Int64.le_iff_toInt_le, ← Int64.toInt_inj, Int64.reduceToInt, Int32.toInt_toInt64, lg_cmp_ge, lg_cmp_le, lg_cmp_gt, lg_cmp_lt, lg_cmp_eq, Bool.false_eq_true, Bool.true_eq_false, reduceCtorEq, false_iff, true_iff, iff_true, iff_false, and_true, true_and, and_false, false_and, reduceIte, ite_true, ite_false, eq_self] at *)) <;> omega)), trivial⟩
set_option maxHeartbeats 4000000 in
theorem sp_X11_core (G : kG9) {d : Nat} (hd : 5 ≤ d) (σ : St) (r1 : 0 ≤ (gi σ 31 13).toInt ∧ (gi σ 31 13).toInt ≤ 3000) (r2 : 0 ≤ (gi σ 41 15).toInt ∧ (gi σ 41 15).toInt ≤ 1100) : Ct G M_X11_core d [.ref 0] σ (fun r σ' => ∃ x : Int32, r = some (.int x) ∧ Fm [31, 32, 33, 34, 35, 36, 37, 38, 39, 40, 41, 42, 43, 44, 45, 46, 47, 48, 49] [] σ σ' ∧ (0 ≤ (gi σ' 31 13).toInt ∧ (gi σ' 31 13).toInt ≤ 3000) ∧ (0 ≤ (gi σ' 41 15).toInt ∧ (gi σ' 41 15).toInt ≤ 1100) ∧ True) := by
  refine wa_start (by decide) rfl (Nat.le_of_ble_eq_true rfl) (lv := [(0, .ref 0)]) rfl o_X11_core_0 rfl ?_
  refine wa_aload_n (i := 0) rfl rfl ?_
  refine wa_getr ck_11 fl_11_16 ly_0 rf_0_1 ?_
  refine wa_getz ck_1 fl_11_122 ly_2 ?_
  refine wa_if_eq o_X11_core_13 (by decide) (fun h1 => ?_) (fun h1 => ?_)
  · replace h1 := bI_f (b := (gb σ 2 8)) (rfl) h1
    refine wa_aload_n (i := 0) rfl rfl ?_
    refine wa_getr ck_11 fl_11_55 ly_0 rf_0_6 ?_
    refine wa_aload_n (i := 0) rfl rfl ?_
    refine wa_getr ck_11 fl_11_23 ly_0 rf_0_2 ?_
    refine wa_geti ck_2 fl_11_213 ly_7 ?_
    refine wa_Vi (d9 := d - 1) [.int _] [] (sp_X6_judge G (d := d - 1) (by omega) σ _ (by first | assumption | exact Or.inl rfl | exact Or.inr rfl | (((try simp only [vp_in_iff, Int32.lt_iff_toInt_lt, Int32.le_iff_toInt_le, ← Int32.toInt_inj, Int32.reduceToInt, n_1, n_2, n_8, Int32.toNatClampNeg, Int64.lt_iff_toInt_lt, Int64.le_iff_toInt_le, ← Int64.toInt_inj, Int64.reduceToInt, Int32.toInt_toInt64, lg_cmp_ge, lg_cmp_le, lg_cmp_gt, lg_cmp_lt, lg_cmp_eq, Bool.false_eq_true, Bool.true_eq_false, reduceCtorEq, false_iff, true_iff, iff_true, iff_false, and_true, true_and, and_false, false_and, reduceIte, ite_true, ite_false, eq_self] at *)) <;> omega))) (rfl) rfl rfl (zr (by omega)) mk_X6_judge ly_31 ml_11_298 (Nat.le_of_ble_eq_true rfl) (fun x3 s2 hs2 => ?_)
    obtain ⟨bx3, ex3, fs2, cx3_1, -⟩ := pB hs2
    subst ex3
    have Fs2 : Fm [31, 32, 33, 34, 35, 36, 37, 38, 39, 40, 41, 42, 43, 44, 45, 46, 47, 48, 49] [] σ s2 := Fm.tr (Fm.rf [31, 32, 33, 34, 35, 36, 37, 38, 39, 40, 41, 42, 43, 44, 45, 46, 47, 48, 49] [] σ) (Fm.ofSm fs2 rfl)
    refine wa_if_eq o_X11_core_47 (by decide) (fun h4 => ?_) (fun h4 => ?_)
    · replace h4 := bI_f (b := bx3) (rfl) h4
      refine wa_bipush (v := (-107)) (by decide) ?_
      refine wa_ireturn rfl rfl ?_
      exact ⟨_, rfl, Fs2, (by first | assumption | (((try simp only [vp_in_iff, Int32.lt_iff_toInt_lt, Int32.le_iff_toInt_le, ← Int32.toInt_inj, Int32.reduceToInt, n_1, n_2, n_8, Int32.toNatClampNeg, Int64.lt_iff_toInt_lt, Int64.le_iff_toInt_le, ← Int64.toInt_inj, Int64.reduceToInt, Int32.toInt_toInt64, lg_cmp_ge, lg_cmp_le, lg_cmp_gt, lg_cmp_lt, lg_cmp_eq, Bool.false_eq_true, Bool.true_eq_false, reduceCtorEq, false_iff, true_iff, iff_true, iff_false, and_true, true_and, and_false, false_and, reduceIte, ite_true, ite_false, eq_self] at *)) <;> omega)), (by rw [Sm.gi fs2 15 (Or.inr (by decide))]; first | assumption | (((try simp only [vp_in_iff, Int32.lt_iff_toInt_lt, Int32.le_iff_toInt_le, ← Int32.toInt_inj, Int32.reduceToInt, n_1, n_2, n_8, Int32.toNatClampNeg, Int64.lt_iff_toInt_lt, Int64.le_iff_toInt_le, ← Int64.toInt_inj, Int64.reduceToInt, Int32.toInt_toInt64, lg_cmp_ge, lg_cmp_le, lg_cmp_gt, lg_cmp_lt, lg_cmp_eq, Bool.false_eq_true, Bool.true_eq_false, reduceCtorEq, false_iff, true_iff, iff_true, iff_false, and_true, true_and, and_false, false_and, reduceIte, ite_true, ite_false, eq_self] at *)) <;> omega)), trivial⟩
    · replace h4 := bI_t (b := bx3) (rfl) h4
      refine wa_aload_n (i := 0) rfl rfl ?_
      refine wa_getr ck_11 fl_11_64 ly_0 rf_0_7 ?_
      refine wa_aload_n (i := 0) rfl rfl ?_
      refine wa_getr ck_11 fl_11_23 ly_0 rf_0_2 ?_
      refine wa_geti ck_2 fl_11_213 ly_7 ?_
      refine wa_rw (Sm.gi fs2 13 (Or.inl (by decide))) ?_
      refine wa_Vi (d9 := d - 1) [.int _] [] (sp_X0_tellCore G (d := d - 1) (by omega) s2 _ (by first | assumption | exact Or.inl rfl | exact Or.inr rfl | (((try simp only [vp_in_iff, Int32.lt_iff_toInt_lt, Int32.le_iff_toInt_le, ← Int32.toInt_inj, Int32.reduceToInt, n_1, n_2, n_8, Int32.toNatClampNeg, Int64.lt_iff_toInt_lt, Int64.le_iff_toInt_le, ← Int64.toInt_inj, Int64.reduceToInt, Int32.toInt_toInt64, lg_cmp_ge, lg_cmp_le, lg_cmp_gt, lg_cmp_lt, lg_cmp_eq, Bool.false_eq_true, Bool.true_eq_false, reduceCtorEq, false_iff, true_iff, iff_true, iff_false, and_true, true_and, and_false, false_and, reduceIte, ite_true, ite_false, eq_self] at *)) <;> omega)) (by rw [Sm.gi fs2 15 (Or.inr (by decide))]; first | assumption | exact Or.inl rfl | exact Or.inr rfl | (((try simp only [vp_in_iff, Int32.lt_iff_toInt_lt, Int32.le_iff_toInt_le, ← Int32.toInt_inj, Int32.reduceToInt, n_1, n_2, n_8, Int32.toNatClampNeg, Int64.lt_iff_toInt_lt, Int64.le_iff_toInt_le, ← Int64.toInt_inj, Int64.reduceToInt, Int32.toInt_toInt64, lg_cmp_ge, lg_cmp_le, lg_cmp_gt, lg_cmp_lt, lg_cmp_eq, Bool.false_eq_true, Bool.true_eq_false, reduceCtorEq, false_iff, true_iff, iff_true, iff_false, and_true, true_and, and_false, false_and, reduceIte, ite_true, ite_false, eq_self] at *)) <;> omega))) (rfl) rfl rfl (zr (by omega)) mk_X0_tellCore ly_41 ml_11_342 (Nat.le_of_ble_eq_true rfl) (fun x6 s5 hs5 => ?_)
      obtain ⟨fs5, cx6_1, -⟩ := pI hs5
      have Fs5 : Fm [31, 32, 33, 34, 35, 36, 37, 38, 39, 40, 41, 42, 43, 44, 45, 46, 47, 48, 49] [] σ s5 := Fm.tr Fs2 (Fm.ofSm fs5 rfl)
      refine wa_goto o_X11_core_49 (by decide) ?_
      refine wa_ireturn rfl rfl ?_
      exact ⟨_, rfl, Fs5, (by rw [Sm.gi fs5 13 (Or.inl (by decide))]; first | assumption | (((try simp only [vp_in_iff, Int32.lt_iff_toInt_lt, Int32.le_iff_toInt_le, ← Int32.toInt_inj, Int32.reduceToInt, n_1, n_2, n_8, Int32.toNatClampNeg, Int64.lt_iff_toInt_lt, Int64.le_iff_toInt_le, ← Int64.toInt_inj, Int64.reduceToInt, Int32.toInt_toInt64, lg_cmp_ge, lg_cmp_le, lg_cmp_gt, lg_cmp_lt, lg_cmp_eq, Bool.false_eq_true, Bool.true_eq_false, reduceCtorEq, false_iff, true_iff, iff_true, iff_false, and_true, true_and, and_false, false_and, reduceIte, ite_true, ite_false, eq_self] at *)) <;> omega)), (by first | assumption | (((try simp only [vp_in_iff, Int32.lt_iff_toInt_lt, Int32.le_iff_toInt_le, ← Int32.toInt_inj, Int32.reduceToInt, n_1, n_2, n_8, Int32.toNatClampNeg, Int64.lt_iff_toInt_lt, Int64.le_iff_toInt_le, ← Int64.toInt_inj, Int64.reduceToInt, Int32.toInt_toInt64, lg_cmp_ge, lg_cmp_le, lg_cmp_gt, lg_cmp_lt, lg_cmp_eq, Bool.false_eq_true, Bool.true_eq_false, reduceCtorEq, false_iff, true_iff, iff_true, iff_false, and_true, true_and, and_false, false_and, reduceIte, ite_true, ite_false, eq_self] at *)) <;> omega)), trivial⟩
  · replace h1 := bI_t (b := (gb σ 2 8)) (rfl) h1
    refine wa_bipush (v := (-105)) (by decide) ?_
    refine wa_ireturn rfl rfl ?_
    exact ⟨_, rfl, (Fm.rf [31, 32, 33, 34, 35, 36, 37, 38, 39, 40, 41, 42, 43, 44, 45, 46, 47, 48, 49] [] σ), (by first | assumption | (((try simp only [vp_in_iff, Int32.lt_iff_toInt_lt, Int32.le_iff_toInt_le, ← Int32.toInt_inj, Int32.reduceToInt, n_1, n_2, n_8, Int32.toNatClampNeg, Int64.lt_iff_toInt_lt, Int64.le_iff_toInt_le, ← Int64.toInt_inj, Int64.reduceToInt, Int32.toInt_toInt64, lg_cmp_ge, lg_cmp_le, lg_cmp_gt, lg_cmp_lt, lg_cmp_eq, Bool.false_eq_true, Bool.true_eq_false, reduceCtorEq, false_iff, true_iff, iff_true, iff_false, and_true, true_and, and_false, false_and, reduceIte, ite_true, ite_false, eq_self] at *)) <;> omega)), (by first | assumption | (((try simp only [vp_in_iff, Int32.lt_iff_toInt_lt, Int32.le_iff_toInt_le, ← Int32.toInt_inj, Int32.reduceToInt, n_1, n_2, n_8, Int32.toNatClampNeg, Int64.lt_iff_toInt_lt, Int64.le_iff_toInt_le, ← Int64.toInt_inj, Int64.reduceToInt, Int32.toInt_toInt64, lg_cmp_ge, lg_cmp_le, lg_cmp_gt, lg_cmp_lt, lg_cmp_eq, Bool.false_eq_true, Bool.true_eq_false, reduceCtorEq, false_iff, true_iff, iff_true, iff_false, and_true, true_and, and_false, false_and, reduceIte, ite_true, ite_false, eq_self] at *)) <;> omega)), trivial⟩
set_option maxHeartbeats 4000000 in
theorem sp_X11_inCore (G : kG9) {d : Nat} (hd : 1 ≤ d) (σ : St) (a0 : Int32) : Ct G M_X11_inCore d [.ref 0, .int a0] σ (fun r σ' => ∃ x : Int32, r = some (.int x) ∧ σ = σ' ∧ True) := by
  refine wa_start (by decide) rfl (Nat.le_of_ble_eq_true rfl) (lv := [(0, .ref 0), (1, .int a0)]) rfl o_X11_inCore_0 rfl ?_
  have ua0 := Int32.toInt_lt a0
  have wa0 := Int32.le_toInt a0
  refine wa_aload_n (i := 0) rfl rfl ?_
  refine wa_getr ck_11 fl_11_64 ly_0 rf_0_7 ?_
  refine wa_iload_n (i := 1) rfl rfl ?_
  refine wa_Vi (d9 := d - 1) [.int _] [] (sp_X0_toldInCore G (d := d - 1) (by omega) σ _) (rfl) rfl rfl (zr (by omega)) mk_X0_toldInCore ly_41 ml_11_345 (Nat.le_of_ble_eq_true rfl) (fun x2 s1 hs1 => ?_)
  obtain ⟨zs1, -⟩ := pI hs1
  subst zs1
  refine wa_ireturn rfl rfl ?_
  exact ⟨_, rfl, rfl, trivial⟩
set_option maxHeartbeats 4000000 in
theorem sp_X11_alike (G : kG9) {d : Nat} (hd : 5 ≤ d) (σ : St) (a0 : Int32) (a1 : Int32) (r1 : 0 ≤ (gi σ 31 13).toInt ∧ (gi σ 31 13).toInt ≤ 3000) : Ct G M_X11_alike d [.ref 0, .int a0, .int a1] σ (fun r σ' => ∃ x : Int32, r = some (.int x) ∧ Fm [31, 32, 33, 34, 35, 36, 37, 38, 39, 40] [] σ σ' ∧ (0 ≤ (gi σ' 31 13).toInt ∧ (gi σ' 31 13).toInt ≤ 3000) ∧ True) := by
  refine wa_start (by decide) rfl (Nat.le_of_ble_eq_true rfl) (lv := [(0, .ref 0), (1, .int a0), (2, .int a1)]) rfl o_X11_alike_0 rfl ?_
  have ua0 := Int32.toInt_lt a0
  have wa0 := Int32.le_toInt a0
  have ua1 := Int32.toInt_lt a1
  have wa1 := Int32.le_toInt a1
  refine wa_aload_n (i := 0) rfl rfl ?_
  refine wa_getr ck_11 fl_11_16 ly_0 rf_0_1 ?_
  refine wa_getz ck_1 fl_11_122 ly_2 ?_
  refine wa_if_eq o_X11_alike_13 (by decide) (fun h1 => ?_) (fun h1 => ?_)
  · replace h1 := bI_f (b := (gb σ 2 8)) (rfl) h1
    refine wa_aload_n (i := 0) rfl rfl ?_
    refine wa_getr ck_11 fl_11_23 ly_0 rf_0_2 ?_
    refine wa_iload_n (i := 1) rfl rfl ?_
    refine wa_Vi (d9 := d - 1) [.int _] [] (sp_X2_isClaim G (d := d - 1) (by omega) σ _) (rfl) rfl rfl (zr (by omega)) mk_X2_isClaim ly_7 ml_11_176 (Nat.le_of_ble_eq_true rfl) (fun x3 s2 hs2 => ?_)
    obtain ⟨bx3, ex3, zs2, -⟩ := pB hs2
    subst ex3
    subst zs2
    refine wa_if_eq o_X11_alike_35 (by decide) (fun h4 => ?_) (fun h4 => ?_)
    · replace h4 := bI_f (b := bx3) (rfl) h4
      refine wa_bipush (v := (-101)) (by decide) ?_
      refine wa_ireturn rfl rfl ?_
      exact ⟨_, rfl, (Fm.rf [31, 32, 33, 34, 35, 36, 37, 38, 39, 40] [] σ), (by first | assumption | (((try simp only [vp_in_iff, Int32.lt_iff_toInt_lt, Int32.le_iff_toInt_le, ← Int32.toInt_inj, Int32.reduceToInt, n_1, n_2, n_8, Int32.toNatClampNeg, Int64.lt_iff_toInt_lt, Int64.le_iff_toInt_le, ← Int64.toInt_inj, Int64.reduceToInt, Int32.toInt_toInt64, lg_cmp_ge, lg_cmp_le, lg_cmp_gt, lg_cmp_lt, lg_cmp_eq, Bool.false_eq_true, Bool.true_eq_false, reduceCtorEq, false_iff, true_iff, iff_true, iff_false, and_true, true_and, and_false, false_and, reduceIte, ite_true, ite_false, eq_self] at *)) <;> omega)), trivial⟩
    · replace h4 := bI_t (b := bx3) (rfl) h4
      refine wa_aload_n (i := 0) rfl rfl ?_
      refine wa_getr ck_11 fl_11_23 ly_0 rf_0_2 ?_
      refine wa_iload_n (i := 2) rfl rfl ?_
      refine wa_Vi (d9 := d - 1) [.int _] [] (sp_X2_isClaim G (d := d - 1) (by omega) σ _) (rfl) rfl rfl (zr (by omega)) mk_X2_isClaim ly_7 ml_11_176 (Nat.le_of_ble_eq_true rfl) (fun x6 s5 hs5 => ?_)
      obtain ⟨bx6, ex6, zs5, -⟩ := pB hs5
      subst ex6
      subst zs5
      refine wa_if_ne o_X11_alike_38 (by decide) (fun h7 => ?_) (fun h7 => ?_)
      · replace h7 := bI_t (b := bx6) (rfl) h7
        refine wa_aload_n (i := 0) rfl rfl ?_
        refine wa_getr ck_11 fl_11_55 ly_0 rf_0_6 ?_
        refine wa_iconst (v := 1) (by decide) ?_
        refine wa_iload_n (i := 1) rfl rfl ?_
        refine wa_ishl ?_
        refine wa_top (fun v8 hv8 => ?_)
        clear hv8
        refine wa_iconst (v := 1) (by decide) ?_
        refine wa_iload_n (i := 2) rfl rfl ?_
        refine wa_ishl ?_
        refine wa_top (fun v9 hv9 => ?_)
        clear hv9
        refine wa_ior ?_
        refine wa_top (fun v10 hv10 => ?_)
        clear hv10
        refine wa_Vi (d9 := d - 1) [.int _] [] (sp_X6_judge G (d := d - 1) (by omega) σ _ (by first | assumption | exact Or.inl rfl | exact Or.inr rfl | (((try simp only [vp_in_iff, Int32.lt_iff_toInt_lt, Int32.le_iff_toInt_le, ← Int32.toInt_inj, Int32.reduceToInt, n_1, n_2, n_8, Int32.toNatClampNeg, Int64.lt_iff_toInt_lt, Int64.le_iff_toInt_le, ← Int64.toInt_inj, Int64.reduceToInt, Int32.toInt_toInt64, lg_cmp_ge, lg_cmp_le, lg_cmp_gt, lg_cmp_lt, lg_cmp_eq, Bool.false_eq_true, Bool.true_eq_false, reduceCtorEq, false_iff, true_iff, iff_true, iff_false, and_true, true_and, and_false, false_and, reduceIte, ite_true, ite_false, eq_self] at *)) <;> omega))) (rfl) rfl rfl (zr (by omega)) mk_X6_judge ly_31 ml_11_298 (Nat.le_of_ble_eq_true rfl) (fun x12 s11 hs11 => ?_)
        obtain ⟨bx12, ex12, fs11, cx12_1, -⟩ := pB hs11
        subst ex12
        have Fs11 : Fm [31, 32, 33, 34, 35, 36, 37, 38, 39, 40] [] σ s11 := Fm.tr (Fm.rf [31, 32, 33, 34, 35, 36, 37, 38, 39, 40] [] σ) (Fm.ofSm fs11 rfl)
        refine wa_if_ne o_X11_alike_58 (by decide) (fun h13 => ?_) (fun h13 => ?_)
        · replace h13 := bI_t (b := bx12) (rfl) h13
          refine wa_aload_n (i := 0) rfl rfl ?_
          refine wa_getr ck_11 fl_11_64 ly_0 rf_0_7 ?_
          refine wa_iload_n (i := 1) rfl rfl ?_
          refine wa_iload_n (i := 2) rfl rfl ?_
          refine wa_Vi (d9 := d - 1) [.int _, .int _] [] (sp_X0_areAlike G (d := d - 1) (by omega) s11 _ _ (by first | assumption | exact Or.inl rfl | exact Or.inr rfl | (((try simp only [vp_in_iff, Int32.lt_iff_toInt_lt, Int32.le_iff_toInt_le, ← Int32.toInt_inj, Int32.reduceToInt, n_1, n_2, n_8, Int32.toNatClampNeg, Int64.lt_iff_toInt_lt, Int64.le_iff_toInt_le, ← Int64.toInt_inj, Int64.reduceToInt, Int32.toInt_toInt64, lg_cmp_ge, lg_cmp_le, lg_cmp_gt, lg_cmp_lt, lg_cmp_eq, Bool.false_eq_true, Bool.true_eq_false, reduceCtorEq, false_iff, true_iff, iff_true, iff_false, and_true, true_and, and_false, false_and, reduceIte, ite_true, ite_false, eq_self] at *)) <;> omega))) (rfl) rfl rfl (zr (by omega)) mk_X0_areAlike ly_41 ml_11_348 (Nat.le_of_ble_eq_true rfl) (fun x15 s14 hs14 => ?_)
          obtain ⟨bx15, ex15, zs14, -⟩ := pB hs14
          subst ex15
          subst zs14
          refine wa_if_eq o_X11_alike_74 (by decide) (fun h16 => ?_) (fun h16 => ?_)
          · replace h16 := bI_f (b := bx15) (rfl) h16
            refine wa_iconst (v := 0) (by decide) ?_
            refine wa_ireturn rfl rfl ?_
            exact ⟨_, rfl, Fs11, (by first | assumption | (((try simp only [vp_in_iff, Int32.lt_iff_toInt_lt, Int32.le_iff_toInt_le, ← Int32.toInt_inj, Int32.reduceToInt, n_1, n_2, n_8, Int32.toNatClampNeg, Int64.lt_iff_toInt_lt, Int64.le_iff_toInt_le, ← Int64.toInt_inj, Int64.reduceToInt, Int32.toInt_toInt64, lg_cmp_ge, lg_cmp_le, lg_cmp_gt, lg_cmp_lt, lg_cmp_eq, Bool.false_eq_true, Bool.true_eq_false, reduceCtorEq, false_iff, true_iff, iff_true, iff_false, and_true, true_and, and_false, false_and, reduceIte, ite_true, ite_false, eq_self] at *)) <;> omega)), trivial⟩
          · replace h16 := bI_t (b := bx15) (rfl) h16
            refine wa_iconst (v := 1) (by decide) ?_
            refine wa_goto o_X11_alike_75 (by decide) ?_
            refine wa_ireturn rfl rfl ?_
            exact ⟨_, rfl, Fs11, (by first | assumption | (((try simp only [vp_in_iff, Int32.lt_iff_toInt_lt, Int32.le_iff_toInt_le, ← Int32.toInt_inj, Int32.reduceToInt, n_1, n_2, n_8, Int32.toNatClampNeg, Int64.lt_iff_toInt_lt, Int64.le_iff_toInt_le, ← Int64.toInt_inj, Int64.reduceToInt, Int32.toInt_toInt64, lg_cmp_ge, lg_cmp_le, lg_cmp_gt, lg_cmp_lt, lg_cmp_eq, Bool.false_eq_true, Bool.true_eq_false, reduceCtorEq, false_iff, true_iff, iff_true, iff_false, and_true, true_and, and_false, false_and, reduceIte, ite_true, ite_false, eq_self] at *)) <;> omega)), trivial⟩
        · replace h13 := bI_f (b := bx12) (rfl) h13
          refine wa_bipush (v := (-107)) (by decide) ?_
          refine wa_ireturn rfl rfl ?_
          exact ⟨_, rfl, Fs11, (by first | assumption | (((try simp only [vp_in_iff, Int32.lt_iff_toInt_lt, Int32.le_iff_toInt_le, ← Int32.toInt_inj, Int32.reduceToInt, n_1, n_2, n_8, Int32.toNatClampNeg, Int64.lt_iff_toInt_lt, Int64.le_iff_toInt_le, ← Int64.toInt_inj, Int64.reduceToInt, Int32.toInt_toInt64, lg_cmp_ge, lg_cmp_le, lg_cmp_gt, lg_cmp_lt, lg_cmp_eq, Bool.false_eq_true, Bool.true_eq_false, reduceCtorEq, false_iff, true_iff, iff_true, iff_false, and_true, true_and, and_false, false_and, reduceIte, ite_true, ite_false, eq_self] at *)) <;> omega)), trivial⟩
      · replace h7 := bI_f (b := bx6) (rfl) h7
        refine wa_bipush (v := (-101)) (by decide) ?_
        refine wa_ireturn rfl rfl ?_
        exact ⟨_, rfl, (Fm.rf [31, 32, 33, 34, 35, 36, 37, 38, 39, 40] [] σ), (by first | assumption | (((try simp only [vp_in_iff, Int32.lt_iff_toInt_lt, Int32.le_iff_toInt_le, ← Int32.toInt_inj, Int32.reduceToInt, n_1, n_2, n_8, Int32.toNatClampNeg, Int64.lt_iff_toInt_lt, Int64.le_iff_toInt_le, ← Int64.toInt_inj, Int64.reduceToInt, Int32.toInt_toInt64, lg_cmp_ge, lg_cmp_le, lg_cmp_gt, lg_cmp_lt, lg_cmp_eq, Bool.false_eq_true, Bool.true_eq_false, reduceCtorEq, false_iff, true_iff, iff_true, iff_false, and_true, true_and, and_false, false_and, reduceIte, ite_true, ite_false, eq_self] at *)) <;> omega)), trivial⟩
  · replace h1 := bI_t (b := (gb σ 2 8)) (rfl) h1
    refine wa_bipush (v := (-105)) (by decide) ?_
    refine wa_ireturn rfl rfl ?_
    exact ⟨_, rfl, (Fm.rf [31, 32, 33, 34, 35, 36, 37, 38, 39, 40] [] σ), (by first | assumption | (((try simp only [vp_in_iff, Int32.lt_iff_toInt_lt, Int32.le_iff_toInt_le, ← Int32.toInt_inj, Int32.reduceToInt, n_1, n_2, n_8, Int32.toNatClampNeg, Int64.lt_iff_toInt_lt, Int64.le_iff_toInt_le, ← Int64.toInt_inj, Int64.reduceToInt, Int32.toInt_toInt64, lg_cmp_ge, lg_cmp_le, lg_cmp_gt, lg_cmp_lt, lg_cmp_eq, Bool.false_eq_true, Bool.true_eq_false, reduceCtorEq, false_iff, true_iff, iff_true, iff_false, and_true, true_and, and_false, false_and, reduceIte, ite_true, ite_false, eq_self] at *)) <;> omega)), trivial⟩
set_option maxHeartbeats 4000000 in
theorem sp_X11_places (G : kG9) {d : Nat} (hd : 4 ≤ d) (σ : St) (r1 : 0 ≤ (gi σ 31 13).toInt ∧ (gi σ 31 13).toInt ≤ 3000) : Ct G M_X11_places d [.ref 0] σ (fun r σ' => ∃ x : Int32, r = some (.int x) ∧ Fm [31, 32, 33, 34, 35, 36, 37, 38, 39, 40] [] σ σ' ∧ (0 ≤ (gi σ' 31 13).toInt ∧ (gi σ' 31 13).toInt ≤ 3000) ∧ True) := by
  refine wa_start (by decide) rfl (Nat.le_of_ble_eq_true rfl) (lv := [(0, .ref 0)]) rfl o_X11_places_0 rfl ?_
  refine wa_aload_n (i := 0) rfl rfl ?_
  refine wa_getr ck_11 fl_11_16 ly_0 rf_0_1 ?_
  refine wa_getz ck_1 fl_11_122 ly_2 ?_
  refine wa_if_eq o_X11_places_13 (by decide) (fun h1 => ?_) (fun h1 => ?_)
  · replace h1 := bI_f (b := (gb σ 2 8)) (rfl) h1
    refine wa_aload_n (i := 0) rfl rfl ?_
    refine wa_getr ck_11 fl_11_55 ly_0 rf_0_6 ?_
    refine wa_aload_n (i := 0) rfl rfl ?_
    refine wa_getr ck_11 fl_11_23 ly_0 rf_0_2 ?_
    refine wa_geti ck_2 fl_11_213 ly_7 ?_
    refine wa_Vi (d9 := d - 1) [.int _] [] (sp_X6_explore G (d := d - 1) (by omega) σ _ (by first | assumption | exact Or.inl rfl | exact Or.inr rfl | (((try simp only [vp_in_iff, Int32.lt_iff_toInt_lt, Int32.le_iff_toInt_le, ← Int32.toInt_inj, Int32.reduceToInt, n_1, n_2, n_8, Int32.toNatClampNeg, Int64.lt_iff_toInt_lt, Int64.le_iff_toInt_le, ← Int64.toInt_inj, Int64.reduceToInt, Int32.toInt_toInt64, lg_cmp_ge, lg_cmp_le, lg_cmp_gt, lg_cmp_lt, lg_cmp_eq, Bool.false_eq_true, Bool.true_eq_false, reduceCtorEq, false_iff, true_iff, iff_true, iff_false, and_true, true_and, and_false, false_and, reduceIte, ite_true, ite_false, eq_self] at *)) <;> omega))) (rfl) rfl rfl (zr (by omega)) mk_X6_explore ly_31 ml_11_351 (Nat.le_of_ble_eq_true rfl) (fun x3 s2 hs2 => ?_)
    obtain ⟨bx3, ex3, fs2, cx3_1, -⟩ := pB hs2
    subst ex3
    have Fs2 : Fm [31, 32, 33, 34, 35, 36, 37, 38, 39, 40] [] σ s2 := Fm.tr (Fm.rf [31, 32, 33, 34, 35, 36, 37, 38, 39, 40] [] σ) (Fm.ofSm fs2 rfl)
    refine wa_if_eq o_X11_places_40 (by decide) (fun h4 => ?_) (fun h4 => ?_)
    · replace h4 := bI_f (b := bx3) (rfl) h4
      refine wa_bipush (v := (-107)) (by decide) ?_
      refine wa_ireturn rfl rfl ?_
      exact ⟨_, rfl, Fs2, (by first | assumption | (((try simp only [vp_in_iff, Int32.lt_iff_toInt_lt, Int32.le_iff_toInt_le, ← Int32.toInt_inj, Int32.reduceToInt, n_1, n_2, n_8, Int32.toNatClampNeg, Int64.lt_iff_toInt_lt, Int64.le_iff_toInt_le, ← Int64.toInt_inj, Int64.reduceToInt, Int32.toInt_toInt64, lg_cmp_ge, lg_cmp_le, lg_cmp_gt, lg_cmp_lt, lg_cmp_eq, Bool.false_eq_true, Bool.true_eq_false, reduceCtorEq, false_iff, true_iff, iff_true, iff_false, and_true, true_and, and_false, false_and, reduceIte, ite_true, ite_false, eq_self] at *)) <;> omega)), trivial⟩
    · replace h4 := bI_t (b := bx3) (rfl) h4
      refine wa_aload_n (i := 0) rfl rfl ?_
      refine wa_getr ck_11 fl_11_55 ly_0 rf_0_6 ?_
      refine wa_geti ck_6 fl_11_354 ly_31 ?_
      refine wa_goto o_X11_places_42 (by decide) ?_
      refine wa_ireturn rfl rfl ?_
      exact ⟨_, rfl, Fs2, (by first | assumption | (((try simp only [vp_in_iff, Int32.lt_iff_toInt_lt, Int32.le_iff_toInt_le, ← Int32.toInt_inj, Int32.reduceToInt, n_1, n_2, n_8, Int32.toNatClampNeg, Int64.lt_iff_toInt_lt, Int64.le_iff_toInt_le, ← Int64.toInt_inj, Int64.reduceToInt, Int32.toInt_toInt64, lg_cmp_ge, lg_cmp_le, lg_cmp_gt, lg_cmp_lt, lg_cmp_eq, Bool.false_eq_true, Bool.true_eq_false, reduceCtorEq, false_iff, true_iff, iff_true, iff_false, and_true, true_and, and_false, false_and, reduceIte, ite_true, ite_false, eq_self] at *)) <;> omega)), trivial⟩
  · replace h1 := bI_t (b := (gb σ 2 8)) (rfl) h1
    refine wa_bipush (v := (-105)) (by decide) ?_
    refine wa_ireturn rfl rfl ?_
    exact ⟨_, rfl, (Fm.rf [31, 32, 33, 34, 35, 36, 37, 38, 39, 40] [] σ), (by first | assumption | (((try simp only [vp_in_iff, Int32.lt_iff_toInt_lt, Int32.le_iff_toInt_le, ← Int32.toInt_inj, Int32.reduceToInt, n_1, n_2, n_8, Int32.toNatClampNeg, Int64.lt_iff_toInt_lt, Int64.le_iff_toInt_le, ← Int64.toInt_inj, Int64.reduceToInt, Int32.toInt_toInt64, lg_cmp_ge, lg_cmp_le, lg_cmp_gt, lg_cmp_lt, lg_cmp_eq, Bool.false_eq_true, Bool.true_eq_false, reduceCtorEq, false_iff, true_iff, iff_true, iff_false, and_true, true_and, and_false, false_and, reduceIte, ite_true, ite_false, eq_self] at *)) <;> omega)), trivial⟩
set_option maxHeartbeats 4000000 in
theorem sp_X11_own (G : kG9) {d : Nat} (hd : 5 ≤ d) (σ : St) (a0 : Int32) (r1 : 0 ≤ (gi σ 31 13).toInt ∧ (gi σ 31 13).toInt ≤ 3000) : Ct G M_X11_own d [.ref 0, .int a0] σ (fun r σ' => ∃ x : Int32, r = some (.int x) ∧ Fm [31, 32, 33, 34, 35, 36, 37, 38, 39, 40, 51, 52, 53, 54, 55, 56, 57, 58, 59] [] σ σ' ∧ (0 ≤ (gi σ' 31 13).toInt ∧ (gi σ' 31 13).toInt ≤ 3000) ∧ True) := by
  refine wa_start (by decide) rfl (Nat.le_of_ble_eq_true rfl) (lv := [(0, .ref 0), (1, .int a0)]) rfl o_X11_own_0 rfl ?_
  have ua0 := Int32.toInt_lt a0
  have wa0 := Int32.le_toInt a0
  refine wa_aload_n (i := 0) rfl rfl ?_
  refine wa_getr ck_11 fl_11_16 ly_0 rf_0_1 ?_
  refine wa_getz ck_1 fl_11_122 ly_2 ?_
  refine wa_if_eq o_X11_own_13 (by decide) (fun h1 => ?_) (fun h1 => ?_)
  · replace h1 := bI_f (b := (gb σ 2 8)) (rfl) h1
    refine wa_aload_n (i := 0) rfl rfl ?_
    refine wa_getr ck_11 fl_11_23 ly_0 rf_0_2 ?_
    refine wa_iload_n (i := 1) rfl rfl ?_
    refine wa_Vi (d9 := d - 1) [.int _] [] (sp_X2_isClaim G (d := d - 1) (by omega) σ _) (rfl) rfl rfl (zr (by omega)) mk_X2_isClaim ly_7 ml_11_176 (Nat.le_of_ble_eq_true rfl) (fun x3 s2 hs2 => ?_)
    obtain ⟨bx3, ex3, zs2, -⟩ := pB hs2
    subst ex3
    subst zs2
    refine wa_if_ne o_X11_own_27 (by decide) (fun h4 => ?_) (fun h4 => ?_)
    · replace h4 := bI_t (b := bx3) (rfl) h4
      refine wa_aload_n (i := 0) rfl rfl ?_
      refine wa_getr ck_11 fl_11_55 ly_0 rf_0_6 ?_
      refine wa_iconst (v := 1) (by decide) ?_
      refine wa_iload_n (i := 1) rfl rfl ?_
      refine wa_ishl ?_
      refine wa_top (fun v5 hv5 => ?_)
      clear hv5
      refine wa_Vi (d9 := d - 1) [.int _] [] (sp_X6_judge G (d := d - 1) (by omega) σ _ (by first | assumption | exact Or.inl rfl | exact Or.inr rfl | (((try simp only [vp_in_iff, Int32.lt_iff_toInt_lt, Int32.le_iff_toInt_le, ← Int32.toInt_inj, Int32.reduceToInt, n_1, n_2, n_8, Int32.toNatClampNeg, Int64.lt_iff_toInt_lt, Int64.le_iff_toInt_le, ← Int64.toInt_inj, Int64.reduceToInt, Int32.toInt_toInt64, lg_cmp_ge, lg_cmp_le, lg_cmp_gt, lg_cmp_lt, lg_cmp_eq, Bool.false_eq_true, Bool.true_eq_false, reduceCtorEq, false_iff, true_iff, iff_true, iff_false, and_true, true_and, and_false, false_and, reduceIte, ite_true, ite_false, eq_self] at *)) <;> omega))) (rfl) rfl rfl (zr (by omega)) mk_X6_judge ly_31 ml_11_298 (Nat.le_of_ble_eq_true rfl) (fun x7 s6 hs6 => ?_)
      obtain ⟨bx7, ex7, fs6, cx7_1, -⟩ := pB hs6
      subst ex7
      have Fs6 : Fm [31, 32, 33, 34, 35, 36, 37, 38, 39, 40, 51, 52, 53, 54, 55, 56, 57, 58, 59] [] σ s6 := Fm.tr (Fm.rf [31, 32, 33, 34, 35, 36, 37, 38, 39, 40, 51, 52, 53, 54, 55, 56, 57, 58, 59] [] σ) (Fm.ofSm fs6 rfl)
      refine wa_if_eq o_X11_own_51 (by decide) (fun h8 => ?_) (fun h8 => ?_)
      · replace h8 := bI_f (b := bx7) (rfl) h8
        refine wa_bipush (v := (-107)) (by decide) ?_
        refine wa_ireturn rfl rfl ?_
        exact ⟨_, rfl, Fs6, (by first | assumption | (((try simp only [vp_in_iff, Int32.lt_iff_toInt_lt, Int32.le_iff_toInt_le, ← Int32.toInt_inj, Int32.reduceToInt, n_1, n_2, n_8, Int32.toNatClampNeg, Int64.lt_iff_toInt_lt, Int64.le_iff_toInt_le, ← Int64.toInt_inj, Int64.reduceToInt, Int32.toInt_toInt64, lg_cmp_ge, lg_cmp_le, lg_cmp_gt, lg_cmp_lt, lg_cmp_eq, Bool.false_eq_true, Bool.true_eq_false, reduceCtorEq, false_iff, true_iff, iff_true, iff_false, and_true, true_and, and_false, false_and, reduceIte, ite_true, ite_false, eq_self] at *)) <;> omega)), trivial⟩
      · replace h8 := bI_t (b := bx7) (rfl) h8
        refine wa_aload_n (i := 0) rfl rfl ?_
        refine wa_getr ck_11 fl_11_73 ly_0 rf_0_8 ?_
        refine wa_iload_n (i := 1) rfl rfl ?_
        refine wa_Vi (d9 := d - 1) [.int _] [] (sp_X5_tell G (d := d - 1) (by omega) s6 _ (by first | assumption | exact Or.inl rfl | exact Or.inr rfl | (((try simp only [vp_in_iff, Int32.lt_iff_toInt_lt, Int32.le_iff_toInt_le, ← Int32.toInt_inj, Int32.reduceToInt, n_1, n_2, n_8, Int32.toNatClampNeg, Int64.lt_iff_toInt_lt, Int64.le_iff_toInt_le, ← Int64.toInt_inj, Int64.reduceToInt, Int32.toInt_toInt64, lg_cmp_ge, lg_cmp_le, lg_cmp_gt, lg_cmp_lt, lg_cmp_eq, Bool.false_eq_true, Bool.true_eq_false, reduceCtorEq, false_iff, true_iff, iff_true, iff_false, and_true, true_and, and_false, false_and, reduceIte, ite_true, ite_false, eq_self] at *)) <;> omega))) (rfl) rfl rfl (zr (by omega)) mk_X5_tell ly_51 ml_11_357 (Nat.le_of_ble_eq_true rfl) (fun x10 s9 hs9 => ?_)
        obtain ⟨fs9, -⟩ := pI hs9
        have Fs9 : Fm [31, 32, 33, 34, 35, 36, 37, 38, 39, 40, 51, 52, 53, 54, 55, 56, 57, 58, 59] [] σ s9 := Fm.tr Fs6 (Fm.ofSm fs9 rfl)
        refine wa_goto o_X11_own_53 (by decide) ?_
        refine wa_ireturn rfl rfl ?_
        exact ⟨_, rfl, Fs9, (by rw [Sm.gi fs9 13 (Or.inl (by decide))]; first | assumption | (((try simp only [vp_in_iff, Int32.lt_iff_toInt_lt, Int32.le_iff_toInt_le, ← Int32.toInt_inj, Int32.reduceToInt, n_1, n_2, n_8, Int32.toNatClampNeg, Int64.lt_iff_toInt_lt, Int64.le_iff_toInt_le, ← Int64.toInt_inj, Int64.reduceToInt, Int32.toInt_toInt64, lg_cmp_ge, lg_cmp_le, lg_cmp_gt, lg_cmp_lt, lg_cmp_eq, Bool.false_eq_true, Bool.true_eq_false, reduceCtorEq, false_iff, true_iff, iff_true, iff_false, and_true, true_and, and_false, false_and, reduceIte, ite_true, ite_false, eq_self] at *)) <;> omega)), trivial⟩
    · replace h4 := bI_f (b := bx3) (rfl) h4
      refine wa_bipush (v := (-101)) (by decide) ?_
      refine wa_ireturn rfl rfl ?_
      exact ⟨_, rfl, (Fm.rf [31, 32, 33, 34, 35, 36, 37, 38, 39, 40, 51, 52, 53, 54, 55, 56, 57, 58, 59] [] σ), (by first | assumption | (((try simp only [vp_in_iff, Int32.lt_iff_toInt_lt, Int32.le_iff_toInt_le, ← Int32.toInt_inj, Int32.reduceToInt, n_1, n_2, n_8, Int32.toNatClampNeg, Int64.lt_iff_toInt_lt, Int64.le_iff_toInt_le, ← Int64.toInt_inj, Int64.reduceToInt, Int32.toInt_toInt64, lg_cmp_ge, lg_cmp_le, lg_cmp_gt, lg_cmp_lt, lg_cmp_eq, Bool.false_eq_true, Bool.true_eq_false, reduceCtorEq, false_iff, true_iff, iff_true, iff_false, and_true, true_and, and_false, false_and, reduceIte, ite_true, ite_false, eq_self] at *)) <;> omega)), trivial⟩
  · replace h1 := bI_t (b := (gb σ 2 8)) (rfl) h1
    refine wa_bipush (v := (-105)) (by decide) ?_
    refine wa_ireturn rfl rfl ?_
    exact ⟨_, rfl, (Fm.rf [31, 32, 33, 34, 35, 36, 37, 38, 39, 40, 51, 52, 53, 54, 55, 56, 57, 58, 59] [] σ), (by first | assumption | (((try simp only [vp_in_iff, Int32.lt_iff_toInt_lt, Int32.le_iff_toInt_le, ← Int32.toInt_inj, Int32.reduceToInt, n_1, n_2, n_8, Int32.toNatClampNeg, Int64.lt_iff_toInt_lt, Int64.le_iff_toInt_le, ← Int64.toInt_inj, Int64.reduceToInt, Int32.toInt_toInt64, lg_cmp_ge, lg_cmp_le, lg_cmp_gt, lg_cmp_lt, lg_cmp_eq, Bool.false_eq_true, Bool.true_eq_false, reduceCtorEq, false_iff, true_iff, iff_true, iff_false, and_true, true_and, and_false, false_and, reduceIte, ite_true, ite_false, eq_self] at *)) <;> omega)), trivial⟩
set_option maxHeartbeats 4000000 in
theorem sp_X11_prove (G : kG9) {d : Nat} (hd : 7 ≤ d) (σ : St) (r1 : 0 ≤ (gi σ 31 13).toInt ∧ (gi σ 31 13).toInt ≤ 3000) (r2 : 0 ≤ (gi σ 41 15).toInt ∧ (gi σ 41 15).toInt ≤ 1100) (r3 : 0 ≤ (gi σ 60 12).toInt ∧ (gi σ 60 12).toInt ≤ 4) : Ct G M_X11_prove d [.ref 0] σ (fun r σ' => ∃ x : Int32, r = some (.int x) ∧ Fm [0, 18, 19, 20, 21, 22, 23, 24, 25, 26, 27, 28, 29, 30, 31, 32, 33, 34, 35, 36, 37, 38, 39, 40, 41, 42, 43, 44, 45, 46, 47, 48, 49, 50, 51, 52, 53, 54, 55, 56, 57, 58, 59, 60, 61, 62, 63, 64, 65, 66, 67, 68, 69, 70, 71, 72, 73, 74, 75, 76, 77, 78, 79, 80, 81, 82, 83] [] σ σ' ∧ (0 ≤ (gi σ' 31 13).toInt ∧ (gi σ' 31 13).toInt ≤ 3000) ∧ (0 ≤ (gi σ' 41 15).toInt ∧ (gi σ' 41 15).toInt ≤ 1100) ∧ (0 ≤ (gi σ' 60 12).toInt ∧ (gi σ' 60 12).toInt ≤ 4) ∧ True) := by
  refine wa_start (by decide) rfl (Nat.le_of_ble_eq_true rfl) (lv := [(0, .ref 0)]) rfl o_X11_prove_0 rfl ?_
  refine wa_aload_n (i := 0) rfl rfl ?_
  refine wa_getr ck_11 fl_11_16 ly_0 rf_0_1 ?_
  refine wa_getz ck_1 fl_11_122 ly_2 ?_
  refine wa_if_eq o_X11_prove_13 (by decide) (fun h1 => ?_) (fun h1 => ?_)
  · replace h1 := bI_f (b := (gb σ 2 8)) (rfl) h1
    refine wa_aload_n (i := 0) rfl rfl ?_
    refine wa_getr ck_11 fl_11_98 ly_0 rf_0_11 ?_
    refine wa_aload_n (i := 0) rfl rfl ?_
    refine wa_getr ck_11 fl_11_9 ly_0 rf_0_0 ?_
    refine wa_aload_n (i := 0) rfl rfl ?_
    refine wa_Vi (d9 := d - 1) [] [.ref 1, .ref 75] (sp_X11_useTape G (d := d - 1) (by omega) σ ) (rfl) rfl rfl (zr (by omega)) mk_X11_useTape ly_0 ml_11_230 (Nat.le_of_ble_eq_true rfl) (fun x3 s2 hs2 => ?_)
    obtain ⟨fs2, -⟩ := pI hs2
    have Fs2 : Fm [0, 18, 19, 20, 21, 22, 23, 24, 25, 26, 27, 28, 29, 30, 31, 32, 33, 34, 35, 36, 37, 38, 39, 40, 41, 42, 43, 44, 45, 46, 47, 48, 49, 50, 51, 52, 53, 54, 55, 56, 57, 58, 59, 60, 61, 62, 63, 64, 65, 66, 67, 68, 69, 70, 71, 72, 73, 74, 75, 76, 77, 78, 79, 80, 81, 82, 83] [] σ s2 := Fm.tr (Fm.rf [0, 18, 19, 20, 21, 22, 23, 24, 25, 26, 27, 28, 29, 30, 31, 32, 33, 34, 35, 36, 37, 38, 39, 40, 41, 42, 43, 44, 45, 46, 47, 48, 49, 50, 51, 52, 53, 54, 55, 56, 57, 58, 59, 60, 61, 62, 63, 64, 65, 66, 67, 68, 69, 70, 71, 72, 73, 74, 75, 76, 77, 78, 79, 80, 81, 82, 83] [] σ) (Fm.wd fs2 rfl rfl)
    refine wa_Vi (d9 := d - 1) [.ref 1, .int _] [] (sp_X7_check G (d := d - 1) (by omega) s2 _ (by rw [Fm.gi fs2 (q := 31) (k := 13) rfl rfl]; first | assumption | exact Or.inl rfl | exact Or.inr rfl | (((try simp only [vp_in_iff, Int32.lt_iff_toInt_lt, Int32.le_iff_toInt_le, ← Int32.toInt_inj, Int32.reduceToInt, n_1, n_2, n_8, Int32.toNatClampNeg, Int64.lt_iff_toInt_lt, Int64.le_iff_toInt_le, ← Int64.toInt_inj, Int64.reduceToInt, Int32.toInt_toInt64, lg_cmp_ge, lg_cmp_le, lg_cmp_gt, lg_cmp_lt, lg_cmp_eq, Bool.false_eq_true, Bool.true_eq_false, reduceCtorEq, false_iff, true_iff, iff_true, iff_false, and_true, true_and, and_false, false_and, reduceIte, ite_true, ite_false, eq_self] at *)) <;> omega)) (by rw [Fm.gi fs2 (q := 41) (k := 15) rfl rfl]; first | assumption | exact Or.inl rfl | exact Or.inr rfl | (((try simp only [vp_in_iff, Int32.lt_iff_toInt_lt, Int32.le_iff_toInt_le, ← Int32.toInt_inj, Int32.reduceToInt, n_1, n_2, n_8, Int32.toNatClampNeg, Int64.lt_iff_toInt_lt, Int64.le_iff_toInt_le, ← Int64.toInt_inj, Int64.reduceToInt, Int32.toInt_toInt64, lg_cmp_ge, lg_cmp_le, lg_cmp_gt, lg_cmp_lt, lg_cmp_eq, Bool.false_eq_true, Bool.true_eq_false, reduceCtorEq, false_iff, true_iff, iff_true, iff_false, and_true, true_and, and_false, false_and, reduceIte, ite_true, ite_false, eq_self] at *)) <;> omega)) (by rw [Fm.gi fs2 (q := 60) (k := 12) rfl rfl]; first | assumption | exact Or.inl rfl | exact Or.inr rfl | (((try simp only [vp_in_iff, Int32.lt_iff_toInt_lt, Int32.le_iff_toInt_le, ← Int32.toInt_inj, Int32.reduceToInt, n_1, n_2, n_8, Int32.toNatClampNeg, Int64.lt_iff_toInt_lt, Int64.le_iff_toInt_le, ← Int64.toInt_inj, Int64.reduceToInt, Int32.toInt_toInt64, lg_cmp_ge, lg_cmp_le, lg_cmp_gt, lg_cmp_lt, lg_cmp_eq, Bool.false_eq_true, Bool.true_eq_false, reduceCtorEq, false_iff, true_iff, iff_true, iff_false, and_true, true_and, and_false, false_and, reduceIte, ite_true, ite_false, eq_self] at *)) <;> omega))) (rfl) rfl rfl (zr (by omega)) mk_X7_check ly_75 ml_11_395 (Nat.le_of_ble_eq_true rfl) (fun x5 s4 hs4 => ?_)
    obtain ⟨fs4, cx5_1, cx5_2, cx5_3, -⟩ := pI hs4
    have Fs4 : Fm [0, 18, 19, 20, 21, 22, 23, 24, 25, 26, 27, 28, 29, 30, 31, 32, 33, 34, 35, 36, 37, 38, 39, 40, 41, 42, 43, 44, 45, 46, 47, 48, 49, 50, 51, 52, 53, 54, 55, 56, 57, 58, 59, 60, 61, 62, 63, 64, 65, 66, 67, 68, 69, 70, 71, 72, 73, 74, 75, 76, 77, 78, 79, 80, 81, 82, 83] [] σ s4 := Fm.tr Fs2 (Fm.ofSm fs4 rfl)
    refine wa_istore_nD (lv' := [(1, .int x5), (0, .ref 0)]) (i := 1) rfl (by decide) rfl ?_
    refine wa_iload_n (i := 1) rfl rfl ?_
    refine wa_iconst (v := (-1)) (by decide) ?_
    refine wa_icmp_ne o_X11_prove_57 (by decide) (fun h6 => ?_) (fun h6 => ?_)
    · refine wa_iload_n (i := 1) rfl rfl ?_
      refine wa_ireturn rfl rfl ?_
      exact ⟨_, rfl, Fs4, (by first | assumption | (((try simp only [vp_in_iff, Int32.lt_iff_toInt_lt, Int32.le_iff_toInt_le, ← Int32.toInt_inj, Int32.reduceToInt, n_1, n_2, n_8, Int32.toNatClampNeg, Int64.lt_iff_toInt_lt, Int64.le_iff_toInt_le, ← Int64.toInt_inj, Int64.reduceToInt, Int32.toInt_toInt64, lg_cmp_ge, lg_cmp_le, lg_cmp_gt, lg_cmp_lt, lg_cmp_eq, Bool.false_eq_true, Bool.true_eq_false, reduceCtorEq, false_iff, true_iff, iff_true, iff_false, and_true, true_and, and_false, false_and, reduceIte, ite_true, ite_false, eq_self] at *)) <;> omega)), (by first | assumption | (((try simp only [vp_in_iff, Int32.lt_iff_toInt_lt, Int32.le_iff_toInt_le, ← Int32.toInt_inj, Int32.reduceToInt, n_1, n_2, n_8, Int32.toNatClampNeg, Int64.lt_iff_toInt_lt, Int64.le_iff_toInt_le, ← Int64.toInt_inj, Int64.reduceToInt, Int32.toInt_toInt64, lg_cmp_ge, lg_cmp_le, lg_cmp_gt, lg_cmp_lt, lg_cmp_eq, Bool.false_eq_true, Bool.true_eq_false, reduceCtorEq, false_iff, true_iff, iff_true, iff_false, and_true, true_and, and_false, false_and, reduceIte, ite_true, ite_false, eq_self] at *)) <;> omega)), (by first | assumption | (((try simp only [vp_in_iff, Int32.lt_iff_toInt_lt, Int32.le_iff_toInt_le, ← Int32.toInt_inj, Int32.reduceToInt, n_1, n_2, n_8, Int32.toNatClampNeg, Int64.lt_iff_toInt_lt, Int64.le_iff_toInt_le, ← Int64.toInt_inj, Int64.reduceToInt, Int32.toInt_toInt64, lg_cmp_ge, lg_cmp_le, lg_cmp_gt, lg_cmp_lt, lg_cmp_eq, Bool.false_eq_true, Bool.true_eq_false, reduceCtorEq, false_iff, true_iff, iff_true, iff_false, and_true, true_and, and_false, false_and, reduceIte, ite_true, ite_false, eq_self] at *)) <;> omega)), trivial⟩
    · refine wa_aload_n (i := 0) rfl rfl ?_
      refine wa_aload_n (i := 0) rfl rfl ?_
      refine wa_getr ck_11 fl_11_98 ly_0 rf_0_11 ?_
      refine wa_geti ck_7 fl_11_398 ly_75 ?_
      refine wa_puti ck_11 fl_11_253 ly_0 (fun s7 hs7 => ?_)
      have Fs7 : Fm [0, 18, 19, 20, 21, 22, 23, 24, 25, 26, 27, 28, 29, 30, 31, 32, 33, 34, 35, 36, 37, 38, 39, 40, 41, 42, 43, 44, 45, 46, 47, 48, 49, 50, 51, 52, 53, 54, 55, 56, 57, 58, 59, 60, 61, 62, 63, 64, 65, 66, 67, 68, 69, 70, 71, 72, 73, 74, 75, 76, 77, 78, 79, 80, 81, 82, 83] [] σ s7 := by rw [hs7]; exact Fm.si Fs4 rfl
      refine wa_sipush (v := (-1000)) (by decide) ?_
      refine wa_aload_n (i := 0) rfl rfl ?_
      refine wa_getr ck_11 fl_11_98 ly_0 rf_0_11 ?_
      refine wa_geti ck_7 fl_11_399 ly_75 ?_
      refine wa_rw (nxq_gi_si hs7 (by decide)) ?_
      refine wa_isub ?_
      refine wa_top (fun v8 hv8 => ?_)
      have tv8 := i_subT hv8
      clear hv8
      refine wa_ireturn rfl rfl ?_
      exact ⟨_, rfl, Fs7, (by rw [nxq_gi_si hs7 (by decide)]; first | assumption | (((try simp only [vp_in_iff, Int32.lt_iff_toInt_lt, Int32.le_iff_toInt_le, ← Int32.toInt_inj, Int32.reduceToInt, n_1, n_2, n_8, Int32.toNatClampNeg, Int64.lt_iff_toInt_lt, Int64.le_iff_toInt_le, ← Int64.toInt_inj, Int64.reduceToInt, Int32.toInt_toInt64, lg_cmp_ge, lg_cmp_le, lg_cmp_gt, lg_cmp_lt, lg_cmp_eq, Bool.false_eq_true, Bool.true_eq_false, reduceCtorEq, false_iff, true_iff, iff_true, iff_false, and_true, true_and, and_false, false_and, reduceIte, ite_true, ite_false, eq_self] at *)) <;> omega)), (by rw [nxq_gi_si hs7 (by decide)]; first | assumption | (((try simp only [vp_in_iff, Int32.lt_iff_toInt_lt, Int32.le_iff_toInt_le, ← Int32.toInt_inj, Int32.reduceToInt, n_1, n_2, n_8, Int32.toNatClampNeg, Int64.lt_iff_toInt_lt, Int64.le_iff_toInt_le, ← Int64.toInt_inj, Int64.reduceToInt, Int32.toInt_toInt64, lg_cmp_ge, lg_cmp_le, lg_cmp_gt, lg_cmp_lt, lg_cmp_eq, Bool.false_eq_true, Bool.true_eq_false, reduceCtorEq, false_iff, true_iff, iff_true, iff_false, and_true, true_and, and_false, false_and, reduceIte, ite_true, ite_false, eq_self] at *)) <;> omega)), (by rw [nxq_gi_si hs7 (by decide)]; first | assumption | (((try simp only [vp_in_iff, Int32.lt_iff_toInt_lt, Int32.le_iff_toInt_le, ← Int32.toInt_inj, Int32.reduceToInt, n_1, n_2, n_8, Int32.toNatClampNeg, Int64.lt_iff_toInt_lt, Int64.le_iff_toInt_le, ← Int64.toInt_inj, Int64.reduceToInt, Int32.toInt_toInt64, lg_cmp_ge, lg_cmp_le, lg_cmp_gt, lg_cmp_lt, lg_cmp_eq, Bool.false_eq_true, Bool.true_eq_false, reduceCtorEq, false_iff, true_iff, iff_true, iff_false, and_true, true_and, and_false, false_and, reduceIte, ite_true, ite_false, eq_self] at *)) <;> omega)), trivial⟩
  · replace h1 := bI_t (b := (gb σ 2 8)) (rfl) h1
    refine wa_bipush (v := (-105)) (by decide) ?_
    refine wa_ireturn rfl rfl ?_
    exact ⟨_, rfl, (Fm.rf [0, 18, 19, 20, 21, 22, 23, 24, 25, 26, 27, 28, 29, 30, 31, 32, 33, 34, 35, 36, 37, 38, 39, 40, 41, 42, 43, 44, 45, 46, 47, 48, 49, 50, 51, 52, 53, 54, 55, 56, 57, 58, 59, 60, 61, 62, 63, 64, 65, 66, 67, 68, 69, 70, 71, 72, 73, 74, 75, 76, 77, 78, 79, 80, 81, 82, 83] [] σ), (by first | assumption | (((try simp only [vp_in_iff, Int32.lt_iff_toInt_lt, Int32.le_iff_toInt_le, ← Int32.toInt_inj, Int32.reduceToInt, n_1, n_2, n_8, Int32.toNatClampNeg, Int64.lt_iff_toInt_lt, Int64.le_iff_toInt_le, ← Int64.toInt_inj, Int64.reduceToInt, Int32.toInt_toInt64, lg_cmp_ge, lg_cmp_le, lg_cmp_gt, lg_cmp_lt, lg_cmp_eq, Bool.false_eq_true, Bool.true_eq_false, reduceCtorEq, false_iff, true_iff, iff_true, iff_false, and_true, true_and, and_false, false_and, reduceIte, ite_true, ite_false, eq_self] at *)) <;> omega)), (by first | assumption | (((try simp only [vp_in_iff, Int32.lt_iff_toInt_lt, Int32.le_iff_toInt_le, ← Int32.toInt_inj, Int32.reduceToInt, n_1, n_2, n_8, Int32.toNatClampNeg, Int64.lt_iff_toInt_lt, Int64.le_iff_toInt_le, ← Int64.toInt_inj, Int64.reduceToInt, Int32.toInt_toInt64, lg_cmp_ge, lg_cmp_le, lg_cmp_gt, lg_cmp_lt, lg_cmp_eq, Bool.false_eq_true, Bool.true_eq_false, reduceCtorEq, false_iff, true_iff, iff_true, iff_false, and_true, true_and, and_false, false_and, reduceIte, ite_true, ite_false, eq_self] at *)) <;> omega)), (by first | assumption | (((try simp only [vp_in_iff, Int32.lt_iff_toInt_lt, Int32.le_iff_toInt_le, ← Int32.toInt_inj, Int32.reduceToInt, n_1, n_2, n_8, Int32.toNatClampNeg, Int64.lt_iff_toInt_lt, Int64.le_iff_toInt_le, ← Int64.toInt_inj, Int64.reduceToInt, Int32.toInt_toInt64, lg_cmp_ge, lg_cmp_le, lg_cmp_gt, lg_cmp_lt, lg_cmp_eq, Bool.false_eq_true, Bool.true_eq_false, reduceCtorEq, false_iff, true_iff, iff_true, iff_false, and_true, true_and, and_false, false_and, reduceIte, ite_true, ite_false, eq_self] at *)) <;> omega)), trivial⟩
set_option maxHeartbeats 4000000 in
theorem sp_X11_bound (G : kG9) {d : Nat} (hd : 3 ≤ d) (σ : St) (a0 : Int32) (r1 : 0 ≤ (gi σ 41 15).toInt ∧ (gi σ 41 15).toInt ≤ 1100) : Ct G M_X11_bound d [.ref 0, .int a0] σ (fun r σ' => ∃ x : Int32, r = some (.int x) ∧ Fm [41, 42, 43, 44, 45, 46, 47, 48, 49, 50] [] σ σ' ∧ (0 ≤ (gi σ' 41 15).toInt ∧ (gi σ' 41 15).toInt ≤ 1100) ∧ True) := by
  refine wa_start (by decide) rfl (Nat.le_of_ble_eq_true rfl) (lv := [(0, .ref 0), (1, .int a0)]) rfl o_X11_bound_0 rfl ?_
  have ua0 := Int32.toInt_lt a0
  have wa0 := Int32.le_toInt a0
  refine wa_aload_n (i := 0) rfl rfl ?_
  refine wa_getr ck_11 fl_11_16 ly_0 rf_0_1 ?_
  refine wa_getz ck_1 fl_11_122 ly_2 ?_
  refine wa_if_eq o_X11_bound_15 (by decide) (fun h1 => ?_) (fun h1 => ?_)
  · replace h1 := bI_f (b := (gb σ 2 8)) (rfl) h1
    refine wa_aload_n (i := 0) rfl rfl ?_
    refine wa_getr ck_11 fl_11_64 ly_0 rf_0_7 ?_
    refine wa_iload_n (i := 1) rfl rfl ?_
    refine wa_Vi (d9 := d - 1) [.int _] [] (sp_X0_boundDigit G (d := d - 1) (by omega) σ _ (by first | assumption | exact Or.inl rfl | exact Or.inr rfl | (((try simp only [vp_in_iff, Int32.lt_iff_toInt_lt, Int32.le_iff_toInt_le, ← Int32.toInt_inj, Int32.reduceToInt, n_1, n_2, n_8, Int32.toNatClampNeg, Int64.lt_iff_toInt_lt, Int64.le_iff_toInt_le, ← Int64.toInt_inj, Int64.reduceToInt, Int32.toInt_toInt64, lg_cmp_ge, lg_cmp_le, lg_cmp_gt, lg_cmp_lt, lg_cmp_eq, Bool.false_eq_true, Bool.true_eq_false, reduceCtorEq, false_iff, true_iff, iff_true, iff_false, and_true, true_and, and_false, false_and, reduceIte, ite_true, ite_false, eq_self] at *)) <;> omega))) (rfl) rfl rfl (zr (by omega)) mk_X0_boundDigit ly_41 ml_11_409 (Nat.le_of_ble_eq_true rfl) (fun x3 s2 hs2 => ?_)
    obtain ⟨fs2, cx3_1, -⟩ := pI hs2
    have Fs2 : Fm [41, 42, 43, 44, 45, 46, 47, 48, 49, 50] [] σ s2 := Fm.tr (Fm.rf [41, 42, 43, 44, 45, 46, 47, 48, 49, 50] [] σ) (Fm.ofSm fs2 rfl)
    refine wa_ireturn rfl rfl ?_
    exact ⟨_, rfl, Fs2, (by first | assumption | (((try simp only [vp_in_iff, Int32.lt_iff_toInt_lt, Int32.le_iff_toInt_le, ← Int32.toInt_inj, Int32.reduceToInt, n_1, n_2, n_8, Int32.toNatClampNeg, Int64.lt_iff_toInt_lt, Int64.le_iff_toInt_le, ← Int64.toInt_inj, Int64.reduceToInt, Int32.toInt_toInt64, lg_cmp_ge, lg_cmp_le, lg_cmp_gt, lg_cmp_lt, lg_cmp_eq, Bool.false_eq_true, Bool.true_eq_false, reduceCtorEq, false_iff, true_iff, iff_true, iff_false, and_true, true_and, and_false, false_and, reduceIte, ite_true, ite_false, eq_self] at *)) <;> omega)), trivial⟩
  · replace h1 := bI_t (b := (gb σ 2 8)) (rfl) h1
    refine wa_bipush (v := (-105)) (by decide) ?_
    refine wa_goto o_X11_bound_23 (by decide) ?_
    refine wa_ireturn rfl rfl ?_
    exact ⟨_, rfl, (Fm.rf [41, 42, 43, 44, 45, 46, 47, 48, 49, 50] [] σ), (by first | assumption | (((try simp only [vp_in_iff, Int32.lt_iff_toInt_lt, Int32.le_iff_toInt_le, ← Int32.toInt_inj, Int32.reduceToInt, n_1, n_2, n_8, Int32.toNatClampNeg, Int64.lt_iff_toInt_lt, Int64.le_iff_toInt_le, ← Int64.toInt_inj, Int64.reduceToInt, Int32.toInt_toInt64, lg_cmp_ge, lg_cmp_le, lg_cmp_gt, lg_cmp_lt, lg_cmp_eq, Bool.false_eq_true, Bool.true_eq_false, reduceCtorEq, false_iff, true_iff, iff_true, iff_false, and_true, true_and, and_false, false_and, reduceIte, ite_true, ite_false, eq_self] at *)) <;> omega)), trivial⟩
set_option maxHeartbeats 4000000 in
theorem sp_X11_audit (G : kG9) {d : Nat} (hd : 0 ≤ d) (σ : St) : Ct G M_X11_audit d [.ref 0] σ (fun r σ' => ∃ x : Int32, r = some (.int x) ∧ σ = σ' ∧ True) := by
  refine wa_start (by decide) rfl (Nat.le_of_ble_eq_true rfl) (lv := [(0, .ref 0)]) rfl o_X11_audit_0 rfl ?_
  refine wa_aload_n (i := 0) rfl rfl ?_
  refine wa_getr ck_11 fl_11_16 ly_0 rf_0_1 ?_
  refine wa_getz ck_1 fl_11_122 ly_2 ?_
  refine wa_if_eq o_X11_audit_15 (by decide) (fun h1 => ?_) (fun h1 => ?_)
  · replace h1 := bI_f (b := (gb σ 2 8)) (rfl) h1
    refine wa_iconst (v := 0) (by decide) ?_
    refine wa_ireturn rfl rfl ?_
    exact ⟨_, rfl, rfl, trivial⟩
  · replace h1 := bI_t (b := (gb σ 2 8)) (rfl) h1
    refine wa_bipush (v := (-105)) (by decide) ?_
    refine wa_goto o_X11_audit_16 (by decide) ?_
    refine wa_ireturn rfl rfl ?_
    exact ⟨_, rfl, rfl, trivial⟩
set_option maxHeartbeats 4000000 in
theorem sp_X2_partnerOf (G : kG9) {d : Nat} (hd : 2 ≤ d) (σ : St) (a0 : Int32) (a1 : Int32) (a2 : Int32) : Ct G M_X2_partnerOf d [.ref 7, .int a0, .int a1, .int a2] σ (fun r σ' => ∃ x : Int32, r = some (.int x) ∧ σ = σ' ∧ True) := by
  refine wa_start (by decide) rfl (Nat.le_of_ble_eq_true rfl) (lv := [(0, .ref 7), (1, .int a0), (2, .int a1), (3, .int a2)]) rfl o_X2_partnerOf_0 rfl ?_
  have ua0 := Int32.toInt_lt a0
  have wa0 := Int32.le_toInt a0
  have ua1 := Int32.toInt_lt a1
  have wa1 := Int32.le_toInt a1
  have ua2 := Int32.toInt_lt a2
  have wa2 := Int32.le_toInt a2
  refine wa_iload_n (i := 3) rfl rfl ?_
  refine wa_iconst (v := 4) (by decide) ?_
  refine wa_icmp_ne o_X2_partnerOf_9 (by decide) (fun h1 => ?_) (fun h1 => ?_)
  · refine wa_iconst (v := (-1)) (by decide) ?_
    refine wa_istoreD (lv' := [(4, .int (-1)), (0, .ref 7), (1, .int a0), (2, .int a1), (3, .int a2)]) (by decide) rfl ?_
    refine wa_iconst (v := 0) (by decide) ?_
    refine wa_istoreD (lv' := [(5, .int 0), (4, .int (-1)), (0, .ref 7), (1, .int a0), (2, .int a1), (3, .int a2)]) (by decide) rfl ?_
    refine wa_iload_n (i := 2) rfl rfl ?_
    refine wa_istoreD (lv' := [(6, .int a1), (5, .int 0), (4, .int (-1)), (0, .ref 7), (1, .int a0), (2, .int a1), (3, .int a2)]) (by decide) rfl ?_
    refine wa_pick [3, 4, 2, 1, 0] rfl ?_
    have hi3 : ∀ (n9_18 : Nat) (l5 : Int32) (l6 : Int32), (True) → (2147483647 - ((-1) : Int32).toInt * l6.toInt).toNat = n9_18 → WA G M_X2_partnerOf (ZM G M_X2_partnerOf d (fun r σ' => ∃ x : Int32, r = some (.int x) ∧ σ = σ' ∧ True)) B_X2_partnerOf_18 [(0, .ref 7), (1, .int a0), (4, .int (-1)), (5, .int l5), (6, .int l6)] [] σ := by
      intro n9_18
      induction n9_18 using Nat.strongRecOn with
      | _ n9_18 ih2 =>
        intro l5 l6  i9 m9_18
        have ul5 := Int32.toInt_lt l5
        have wl5 := Int32.le_toInt l5
        have ul6 := Int32.toInt_lt l6
        have wl6 := Int32.le_toInt l6
        refine wa_iload rfl ?_
        refine wa_if_lt o_X2_partnerOf_90 (by decide) (fun h4 => ?_) (fun h4 => ?_)
        · refine wa_iconst (v := (-1)) (by decide) ?_
          refine wa_ireturn rfl rfl ?_
          exact ⟨_, rfl, rfl, trivial⟩
        · refine wa_iload rfl ?_
          refine wa_aload_n (i := 0) rfl rfl ?_
          refine wa_iload_n (i := 1) rfl rfl ?_
          refine wa_iconst (v := 0) (by decide) ?_
          refine wa_Vi (d9 := d - 1) [.int _, .int _] [.int l6] (sp_X2_fact G (d := d - 1) (by omega) σ _ _) (rfl) rfl rfl (zr (by omega)) mk_X2_fact ly_7 ml_2_67 (Nat.le_of_ble_eq_true rfl) (fun x6 s5 hs5 => ?_)
          obtain ⟨zs5, -⟩ := pI hs5
          subst zs5
          refine wa_icmp_ge o_X2_partnerOf_90 (by decide) (fun h7 => ?_) (fun h7 => ?_)
          · refine wa_iconst (v := (-1)) (by decide) ?_
            refine wa_ireturn rfl rfl ?_
            exact ⟨_, rfl, rfl, trivial⟩
          · have mh7 := nle_mx h7
            refine wa_aload_n (i := 0) rfl rfl ?_
            refine wa_iload_n (i := 1) rfl rfl ?_
            refine wa_iload rfl ?_
            refine wa_Vi (d9 := d - 1) [.int _, .int _] [] (sp_X2_token G (d := d - 1) (by omega) σ _ _) (rfl) rfl rfl (zr (by omega)) mk_X2_token ly_7 ml_2_74 (Nat.le_of_ble_eq_true rfl) (fun x9 s8 hs8 => ?_)
            obtain ⟨zs8, -⟩ := pI hs8
            subst zs8
            refine wa_bipush (v := 63) (by decide) ?_
            refine wa_iand ?_
            refine wa_top (fun v10 hv10 => ?_)
            have tv10 := i_andT hv10
            clear hv10
            refine wa_istoreD (lv' := [(7, .int v10), (0, .ref 7), (1, .int a0), (4, .int (-1)), (5, .int l5), (6, .int l6)]) (by decide) rfl ?_
            refine wa_iload rfl ?_
            refine wa_iload rfl ?_
            refine wa_iconst (v := 4) (by decide) ?_
            refine wa_icmp_ne o_X2_partnerOf_58 (by decide) (fun h11 => ?_) (fun h11 => ?_)
            · refine wa_iload rfl ?_
              refine wa_iconst (v := 5) (by decide) ?_
              refine wa_icmp_ne o_X2_partnerOf_68 (by decide) (fun h12 => ?_) (fun h12 => ?_)
              · refine wa_iconst (v := 0) (by decide) ?_
                refine wa_iadd ?_
                refine wa_top (fun v13 hv13 => ?_)
                have tv13 := i_addT hv13
                clear hv13
                refine wa_istoreD (lv' := [(5, .int v13), (7, .int v10), (0, .ref 7), (1, .int a0), (4, .int (-1)), (6, .int l6)]) (by decide) rfl ?_
                refine wa_iload rfl ?_
                refine wa_if_ne o_X2_partnerOf_80 (by decide) (fun h14 => ?_) (fun h14 => ?_)
                · refine wa_iload rfl ?_
                  refine wa_iload rfl ?_
                  refine wa_iadd ?_
                  refine wa_top (fun v15 hv15 => ?_)
                  have tv15 := i_addT hv15
                  clear hv15
                  refine wa_istoreD (lv' := [(6, .int v15), (5, .int v13), (7, .int v10), (0, .ref 7), (1, .int a0), (4, .int (-1))]) (by decide) rfl ?_
                  refine wa_goto o_X2_partnerOf_18 (by decide) ?_
                  refine wa_pick [3, 4, 5, 1, 0] rfl ?_
                  exact ih2 _ (by ((try simp only [vp_in_iff, Int32.lt_iff_toInt_lt, Int32.le_iff_toInt_le, ← Int32.toInt_inj, Int32.reduceToInt, n_1, n_2, n_8, Int32.toNatClampNeg, Int64.lt_iff_toInt_lt, Int64.le_iff_toInt_le, ← Int64.toInt_inj, Int64.reduceToInt, Int32.toInt_toInt64, lg_cmp_ge, lg_cmp_le, lg_cmp_gt, lg_cmp_lt, lg_cmp_eq, Bool.false_eq_true, Bool.true_eq_false, reduceCtorEq, false_iff, true_iff, iff_true, iff_false, and_true, true_and, and_false, false_and, reduceIte, ite_true, ite_false, eq_self] at *)) <;> omega) _ _ trivial rfl
                · refine wa_iload rfl ?_
                  refine wa_ireturn rfl rfl ?_
                  exact ⟨_, rfl, rfl, trivial⟩
              · refine wa_iconst (v := (-1)) (by decide) ?_
                refine wa_goto o_X2_partnerOf_69 (by decide) ?_
                refine wa_iadd ?_
                refine wa_top (fun v16 hv16 => ?_)
                have tv16 := i_addT hv16
                clear hv16
                refine wa_istoreD (lv' := [(5, .int v16), (7, .int v10), (0, .ref 7), (1, .int a0), (4, .int (-1)), (6, .int l6)]) (by decide) rfl ?_
                refine wa_iload rfl ?_
                refine wa_if_ne o_X2_partnerOf_80 (by decide) (fun h17 => ?_) (fun h17 => ?_)
                · refine wa_iload rfl ?_
                  refine wa_iload rfl ?_
                  refine wa_iadd ?_
                  refine wa_top (fun v18 hv18 => ?_)
                  have tv18 := i_addT hv18
                  clear hv18
                  refine wa_istoreD (lv' := [(6, .int v18), (5, .int v16), (7, .int v10), (0, .ref 7), (1, .int a0), (4, .int (-1))]) (by decide) rfl ?_
                  refine wa_goto o_X2_partnerOf_18 (by decide) ?_
                  refine wa_pick [3, 4, 5, 1, 0] rfl ?_
                  exact ih2 _ (by ((try simp only [vp_in_iff, Int32.lt_iff_toInt_lt, Int32.le_iff_toInt_le, ← Int32.toInt_inj, Int32.reduceToInt, n_1, n_2, n_8, Int32.toNatClampNeg, Int64.lt_iff_toInt_lt, Int64.le_iff_toInt_le, ← Int64.toInt_inj, Int64.reduceToInt, Int32.toInt_toInt64, lg_cmp_ge, lg_cmp_le, lg_cmp_gt, lg_cmp_lt, lg_cmp_eq, Bool.false_eq_true, Bool.true_eq_false, reduceCtorEq, false_iff, true_iff, iff_true, iff_false, and_true, true_and, and_false, false_and, reduceIte, ite_true, ite_false, eq_self] at *)) <;> omega) _ _ trivial rfl
                · refine wa_iload rfl ?_
                  refine wa_ireturn rfl rfl ?_
                  exact ⟨_, rfl, rfl, trivial⟩
            · refine wa_iconst (v := 1) (by decide) ?_
              refine wa_goto o_X2_partnerOf_69 (by decide) ?_
              refine wa_iadd ?_
              refine wa_top (fun v19 hv19 => ?_)
              have tv19 := i_addT hv19
              clear hv19
              refine wa_istoreD (lv' := [(5, .int v19), (7, .int v10), (0, .ref 7), (1, .int a0), (4, .int (-1)), (6, .int l6)]) (by decide) rfl ?_
              refine wa_iload rfl ?_
              refine wa_if_ne o_X2_partnerOf_80 (by decide) (fun h20 => ?_) (fun h20 => ?_)
              · refine wa_iload rfl ?_
                refine wa_iload rfl ?_
                refine wa_iadd ?_
                refine wa_top (fun v21 hv21 => ?_)
                have tv21 := i_addT hv21
                clear hv21
                refine wa_istoreD (lv' := [(6, .int v21), (5, .int v19), (7, .int v10), (0, .ref 7), (1, .int a0), (4, .int (-1))]) (by decide) rfl ?_
                refine wa_goto o_X2_partnerOf_18 (by decide) ?_
                refine wa_pick [3, 4, 5, 1, 0] rfl ?_
                exact ih2 _ (by ((try simp only [vp_in_iff, Int32.lt_iff_toInt_lt, Int32.le_iff_toInt_le, ← Int32.toInt_inj, Int32.reduceToInt, n_1, n_2, n_8, Int32.toNatClampNeg, Int64.lt_iff_toInt_lt, Int64.le_iff_toInt_le, ← Int64.toInt_inj, Int64.reduceToInt, Int32.toInt_toInt64, lg_cmp_ge, lg_cmp_le, lg_cmp_gt, lg_cmp_lt, lg_cmp_eq, Bool.false_eq_true, Bool.true_eq_false, reduceCtorEq, false_iff, true_iff, iff_true, iff_false, and_true, true_and, and_false, false_and, reduceIte, ite_true, ite_false, eq_self] at *)) <;> omega) _ _ trivial rfl
              · refine wa_iload rfl ?_
                refine wa_ireturn rfl rfl ?_
                exact ⟨_, rfl, rfl, trivial⟩
    exact hi3 _ _ _ trivial rfl
  · refine wa_iconst (v := 1) (by decide) ?_
    refine wa_goto o_X2_partnerOf_10 (by decide) ?_
    refine wa_istoreD (lv' := [(4, .int 1), (0, .ref 7), (1, .int a0), (2, .int a1), (3, .int a2)]) (by decide) rfl ?_
    refine wa_iconst (v := 0) (by decide) ?_
    refine wa_istoreD (lv' := [(5, .int 0), (4, .int 1), (0, .ref 7), (1, .int a0), (2, .int a1), (3, .int a2)]) (by decide) rfl ?_
    refine wa_iload_n (i := 2) rfl rfl ?_
    refine wa_istoreD (lv' := [(6, .int a1), (5, .int 0), (4, .int 1), (0, .ref 7), (1, .int a0), (2, .int a1), (3, .int a2)]) (by decide) rfl ?_
    refine wa_pick [3, 4, 2, 1, 0] rfl ?_
    have hi23 : ∀ (n9_18 : Nat) (l5 : Int32) (l6 : Int32), (True) → (2147483647 - (1 : Int32).toInt * l6.toInt).toNat = n9_18 → WA G M_X2_partnerOf (ZM G M_X2_partnerOf d (fun r σ' => ∃ x : Int32, r = some (.int x) ∧ σ = σ' ∧ True)) B_X2_partnerOf_18 [(0, .ref 7), (1, .int a0), (4, .int 1), (5, .int l5), (6, .int l6)] [] σ := by
      intro n9_18
      induction n9_18 using Nat.strongRecOn with
      | _ n9_18 ih22 =>
        intro l5 l6  i9 m9_18
        have ul5 := Int32.toInt_lt l5
        have wl5 := Int32.le_toInt l5
        have ul6 := Int32.toInt_lt l6
        have wl6 := Int32.le_toInt l6
        refine wa_iload rfl ?_
        refine wa_if_lt o_X2_partnerOf_90 (by decide) (fun h24 => ?_) (fun h24 => ?_)
        · refine wa_iconst (v := (-1)) (by decide) ?_
          refine wa_ireturn rfl rfl ?_
          exact ⟨_, rfl, rfl, trivial⟩
        · refine wa_iload rfl ?_
          refine wa_aload_n (i := 0) rfl rfl ?_
          refine wa_iload_n (i := 1) rfl rfl ?_
          refine wa_iconst (v := 0) (by decide) ?_
          refine wa_Vi (d9 := d - 1) [.int _, .int _] [.int l6] (sp_X2_fact G (d := d - 1) (by omega) σ _ _) (rfl) rfl rfl (zr (by omega)) mk_X2_fact ly_7 ml_2_67 (Nat.le_of_ble_eq_true rfl) (fun x26 s25 hs25 => ?_)
          obtain ⟨zs25, -⟩ := pI hs25
          subst zs25
          refine wa_icmp_ge o_X2_partnerOf_90 (by decide) (fun h27 => ?_) (fun h27 => ?_)
          · refine wa_iconst (v := (-1)) (by decide) ?_
            refine wa_ireturn rfl rfl ?_
            exact ⟨_, rfl, rfl, trivial⟩
          · have mh27 := nle_mx h27
            refine wa_aload_n (i := 0) rfl rfl ?_
            refine wa_iload_n (i := 1) rfl rfl ?_
            refine wa_iload rfl ?_
            refine wa_Vi (d9 := d - 1) [.int _, .int _] [] (sp_X2_token G (d := d - 1) (by omega) σ _ _) (rfl) rfl rfl (zr (by omega)) mk_X2_token ly_7 ml_2_74 (Nat.le_of_ble_eq_true rfl) (fun x29 s28 hs28 => ?_)
            obtain ⟨zs28, -⟩ := pI hs28
            subst zs28
            refine wa_bipush (v := 63) (by decide) ?_
            refine wa_iand ?_
            refine wa_top (fun v30 hv30 => ?_)
            have tv30 := i_andT hv30
            clear hv30
            refine wa_istoreD (lv' := [(7, .int v30), (0, .ref 7), (1, .int a0), (4, .int 1), (5, .int l5), (6, .int l6)]) (by decide) rfl ?_
            refine wa_iload rfl ?_
            refine wa_iload rfl ?_
            refine wa_iconst (v := 4) (by decide) ?_
            refine wa_icmp_ne o_X2_partnerOf_58 (by decide) (fun h31 => ?_) (fun h31 => ?_)
            · refine wa_iload rfl ?_
              refine wa_iconst (v := 5) (by decide) ?_
              refine wa_icmp_ne o_X2_partnerOf_68 (by decide) (fun h32 => ?_) (fun h32 => ?_)
              · refine wa_iconst (v := 0) (by decide) ?_
                refine wa_iadd ?_
                refine wa_top (fun v33 hv33 => ?_)
                have tv33 := i_addT hv33
                clear hv33
                refine wa_istoreD (lv' := [(5, .int v33), (7, .int v30), (0, .ref 7), (1, .int a0), (4, .int 1), (6, .int l6)]) (by decide) rfl ?_
                refine wa_iload rfl ?_
                refine wa_if_ne o_X2_partnerOf_80 (by decide) (fun h34 => ?_) (fun h34 => ?_)
                · refine wa_iload rfl ?_
                  refine wa_iload rfl ?_
                  refine wa_iadd ?_
                  refine wa_top (fun v35 hv35 => ?_)
                  have tv35 := i_addT hv35
                  clear hv35
                  refine wa_istoreD (lv' := [(6, .int v35), (5, .int v33), (7, .int v30), (0, .ref 7), (1, .int a0), (4, .int 1)]) (by decide) rfl ?_
                  refine wa_goto o_X2_partnerOf_18 (by decide) ?_
                  refine wa_pick [3, 4, 5, 1, 0] rfl ?_
                  exact ih22 _ (by ((try simp only [vp_in_iff, Int32.lt_iff_toInt_lt, Int32.le_iff_toInt_le, ← Int32.toInt_inj, Int32.reduceToInt, n_1, n_2, n_8, Int32.toNatClampNeg, Int64.lt_iff_toInt_lt, Int64.le_iff_toInt_le, ← Int64.toInt_inj, Int64.reduceToInt, Int32.toInt_toInt64, lg_cmp_ge, lg_cmp_le, lg_cmp_gt, lg_cmp_lt, lg_cmp_eq, Bool.false_eq_true, Bool.true_eq_false, reduceCtorEq, false_iff, true_iff, iff_true, iff_false, and_true, true_and, and_false, false_and, reduceIte, ite_true, ite_false, eq_self] at *)) <;> omega) _ _ trivial rfl
                · refine wa_iload rfl ?_
                  refine wa_ireturn rfl rfl ?_
                  exact ⟨_, rfl, rfl, trivial⟩
              · refine wa_iconst (v := (-1)) (by decide) ?_
                refine wa_goto o_X2_partnerOf_69 (by decide) ?_
                refine wa_iadd ?_
                refine wa_top (fun v36 hv36 => ?_)
                have tv36 := i_addT hv36
                clear hv36
                refine wa_istoreD (lv' := [(5, .int v36), (7, .int v30), (0, .ref 7), (1, .int a0), (4, .int 1), (6, .int l6)]) (by decide) rfl ?_
                refine wa_iload rfl ?_
                refine wa_if_ne o_X2_partnerOf_80 (by decide) (fun h37 => ?_) (fun h37 => ?_)
                · refine wa_iload rfl ?_
                  refine wa_iload rfl ?_
                  refine wa_iadd ?_
                  refine wa_top (fun v38 hv38 => ?_)
                  have tv38 := i_addT hv38
                  clear hv38
                  refine wa_istoreD (lv' := [(6, .int v38), (5, .int v36), (7, .int v30), (0, .ref 7), (1, .int a0), (4, .int 1)]) (by decide) rfl ?_
                  refine wa_goto o_X2_partnerOf_18 (by decide) ?_
                  refine wa_pick [3, 4, 5, 1, 0] rfl ?_
                  exact ih22 _ (by ((try simp only [vp_in_iff, Int32.lt_iff_toInt_lt, Int32.le_iff_toInt_le, ← Int32.toInt_inj, Int32.reduceToInt, n_1, n_2, n_8, Int32.toNatClampNeg, Int64.lt_iff_toInt_lt, Int64.le_iff_toInt_le, ← Int64.toInt_inj, Int64.reduceToInt, Int32.toInt_toInt64, lg_cmp_ge, lg_cmp_le, lg_cmp_gt, lg_cmp_lt, lg_cmp_eq, Bool.false_eq_true, Bool.true_eq_false, reduceCtorEq, false_iff, true_iff, iff_true, iff_false, and_true, true_and, and_false, false_and, reduceIte, ite_true, ite_false, eq_self] at *)) <;> omega) _ _ trivial rfl
                · refine wa_iload rfl ?_
                  refine wa_ireturn rfl rfl ?_
                  exact ⟨_, rfl, rfl, trivial⟩
            · refine wa_iconst (v := 1) (by decide) ?_
              refine wa_goto o_X2_partnerOf_69 (by decide) ?_
              refine wa_iadd ?_
              refine wa_top (fun v39 hv39 => ?_)
              have tv39 := i_addT hv39
              clear hv39
              refine wa_istoreD (lv' := [(5, .int v39), (7, .int v30), (0, .ref 7), (1, .int a0), (4, .int 1), (6, .int l6)]) (by decide) rfl ?_
              refine wa_iload rfl ?_
              refine wa_if_ne o_X2_partnerOf_80 (by decide) (fun h40 => ?_) (fun h40 => ?_)
              · refine wa_iload rfl ?_
                refine wa_iload rfl ?_
                refine wa_iadd ?_
                refine wa_top (fun v41 hv41 => ?_)
                have tv41 := i_addT hv41
                clear hv41
                refine wa_istoreD (lv' := [(6, .int v41), (5, .int v39), (7, .int v30), (0, .ref 7), (1, .int a0), (4, .int 1)]) (by decide) rfl ?_
                refine wa_goto o_X2_partnerOf_18 (by decide) ?_
                refine wa_pick [3, 4, 5, 1, 0] rfl ?_
                exact ih22 _ (by ((try simp only [vp_in_iff, Int32.lt_iff_toInt_lt, Int32.le_iff_toInt_le, ← Int32.toInt_inj, Int32.reduceToInt, n_1, n_2, n_8, Int32.toNatClampNeg, Int64.lt_iff_toInt_lt, Int64.le_iff_toInt_le, ← Int64.toInt_inj, Int64.reduceToInt, Int32.toInt_toInt64, lg_cmp_ge, lg_cmp_le, lg_cmp_gt, lg_cmp_lt, lg_cmp_eq, Bool.false_eq_true, Bool.true_eq_false, reduceCtorEq, false_iff, true_iff, iff_true, iff_false, and_true, true_and, and_false, false_and, reduceIte, ite_true, ite_false, eq_self] at *)) <;> omega) _ _ trivial rfl
              · refine wa_iload rfl ?_
                refine wa_ireturn rfl rfl ?_
                exact ⟨_, rfl, rfl, trivial⟩
    exact hi23 _ _ _ trivial rfl
set_option maxHeartbeats 4000000 in
theorem sp_X2_isAllWithin (G : kG9) {d : Nat} (hd : 3 ≤ d) (σ : St) (a0 : Int32) (a1 : Int32) (a2 : Int32) : Ct G M_X2_isAllWithin d [.ref 7, .int a0, .int a1, .int a2] σ (fun r σ' => ∃ x : Bool, r = some (.int (bI x)) ∧ σ = σ' ∧ True) := by
  refine wa_start (by decide) rfl (Nat.le_of_ble_eq_true rfl) (lv := [(0, .ref 7), (1, .int a0), (2, .int a1), (3, .int a2)]) rfl o_X2_isAllWithin_0 rfl ?_
  have ua0 := Int32.toInt_lt a0
  have wa0 := Int32.le_toInt a0
  have ua1 := Int32.toInt_lt a1
  have wa1 := Int32.le_toInt a1
  have ua2 := Int32.toInt_lt a2
  have wa2 := Int32.le_toInt a2
  refine wa_aload_n (i := 0) rfl rfl ?_
  refine wa_iload_n (i := 1) rfl rfl ?_
  refine wa_iload_n (i := 2) rfl rfl ?_
  refine wa_Vi (d9 := d - 1) [.int _, .int _] [] (sp_X2_token G (d := d - 1) (by omega) σ _ _) (rfl) rfl rfl (zr (by omega)) mk_X2_token ly_7 ml_2_74 (Nat.le_of_ble_eq_true rfl) (fun x2 s1 hs1 => ?_)
  obtain ⟨zs1, -⟩ := pI hs1
  subst zs1
  refine wa_bipush (v := 63) (by decide) ?_
  refine wa_iand ?_
  refine wa_top (fun v3 hv3 => ?_)
  have tv3 := i_andT hv3
  clear hv3
  refine wa_iconst (v := 4) (by decide) ?_
  refine wa_icmp_ne o_X2_isAllWithin_30 (by decide) (fun h4 => ?_) (fun h4 => ?_)
  · refine wa_iconst (v := 0) (by decide) ?_
    refine wa_zreturn false (rfl) rfl rfl ?_
    exact ⟨_, rfl, rfl, trivial⟩
  · refine wa_aload_n (i := 0) rfl rfl ?_
    refine wa_iload_n (i := 1) rfl rfl ?_
    refine wa_iload_n (i := 2) rfl rfl ?_
    refine wa_iconst (v := 4) (by decide) ?_
    refine wa_Vi (d9 := d - 1) [.int _, .int _, .int _] [] (sp_X2_partnerOf G (d := d - 1) (by omega) σ _ _ _) (rfl) rfl rfl (zr (by omega)) mk_X2_partnerOf ly_7 ml_2_77 (Nat.le_of_ble_eq_true rfl) (fun x6 s5 hs5 => ?_)
    obtain ⟨zs5, -⟩ := pI hs5
    subst zs5
    refine wa_iload_n (i := 3) rfl rfl ?_
    refine wa_iconst (v := 1) (by decide) ?_
    refine wa_isub ?_
    refine wa_top (fun v7 hv7 => ?_)
    have tv7 := i_subT hv7
    clear hv7
    refine wa_icmp_ne o_X2_isAllWithin_30 (by decide) (fun h8 => ?_) (fun h8 => ?_)
    · refine wa_iconst (v := 0) (by decide) ?_
      refine wa_zreturn false (rfl) rfl rfl ?_
      exact ⟨_, rfl, rfl, trivial⟩
    · refine wa_iconst (v := 1) (by decide) ?_
      refine wa_goto o_X2_isAllWithin_31 (by decide) ?_
      refine wa_zreturn true (rfl) rfl rfl ?_
      exact ⟨_, rfl, rfl, trivial⟩
set_option maxHeartbeats 4000000 in
theorem sp_X2_within (G : kG9) {d : Nat} (hd : 4 ≤ d) (σ : St) (a0 : Int32) (a1 : Int32) (a2 : Int32) : Ct G M_X2_within d [.ref 7, .int a0, .int a1, .int a2] σ (fun r σ' => ∃ x : Int32, r = some (.int x) ∧ σ = σ' ∧ True) := by
  refine wa_start (by decide) rfl (Nat.le_of_ble_eq_true rfl) (lv := [(0, .ref 7), (1, .int a0), (2, .int a1), (3, .int a2)]) rfl o_X2_within_0 rfl ?_
  have ua0 := Int32.toInt_lt a0
  have wa0 := Int32.le_toInt a0
  have ua1 := Int32.toInt_lt a1
  have wa1 := Int32.le_toInt a1
  have ua2 := Int32.toInt_lt a2
  have wa2 := Int32.le_toInt a2
  refine wa_iload_n (i := 2) rfl rfl ?_
  refine wa_iconst (v := 1) (by decide) ?_
  refine wa_iadd ?_
  refine wa_top (fun v1 hv1 => ?_)
  have tv1 := i_addT hv1
  clear hv1
  refine wa_istoreD (lv' := [(4, .int v1), (0, .ref 7), (1, .int a0), (2, .int a1), (3, .int a2)]) (by decide) rfl ?_
  refine wa_iload_n (i := 3) rfl rfl ?_
  refine wa_istoreD (lv' := [(5, .int a2), (4, .int v1), (0, .ref 7), (1, .int a0), (2, .int a1), (3, .int a2)]) (by decide) rfl ?_
  refine wa_iconst (v := 0) (by decide) ?_
  refine wa_istoreD (lv' := [(6, .int 0), (5, .int a2), (4, .int v1), (0, .ref 7), (1, .int a0), (2, .int a1), (3, .int a2)]) (by decide) rfl ?_
  refine wa_pick [3, 4, 2, 1, 0] rfl ?_
  have hi3 : ∀ (n9_11 : Nat) (l4 : Int32) (l5 : Int32) (l6 : Int32), ((0 ≤ l6.toInt) ∧ (True)) → (2147483647 - l6.toInt).toNat = n9_11 → WA G M_X2_within (ZM G M_X2_within d (fun r σ' => ∃ x : Int32, r = some (.int x) ∧ σ = σ' ∧ True)) B_X2_within_11 [(0, .ref 7), (1, .int a0), (4, .int l4), (5, .int l5), (6, .int l6)] [] σ := by
    intro n9_11
    induction n9_11 using Nat.strongRecOn with
    | _ n9_11 ih2 =>
      intro l4 l5 l6  i9 m9_11
      obtain ⟨jhi3_0, -⟩ := i9
      have ul4 := Int32.toInt_lt l4
      have wl4 := Int32.le_toInt l4
      have ul5 := Int32.toInt_lt l5
      have wl5 := Int32.le_toInt l5
      have ul6 := Int32.toInt_lt l6
      have wl6 := Int32.le_toInt l6
      refine wa_iload rfl ?_
      refine wa_bipush (v := 120) (by decide) ?_
      refine wa_icmp_ge o_X2_within_42 (by decide) (fun h4 => ?_) (fun h4 => ?_)
      · refine wa_iconst (v := 0) (by decide) ?_
        refine wa_istoreD (lv' := [(6, .int 0), (0, .ref 7), (1, .int a0), (4, .int l4), (5, .int l5)]) (by decide) rfl ?_
        refine wa_iconst (v := 3) (by decide) ?_
        refine wa_istoreD (lv' := [(7, .int 3), (6, .int 0), (0, .ref 7), (1, .int a0), (4, .int l4), (5, .int l5)]) (by decide) rfl ?_
        refine wa_iload rfl ?_
        refine wa_istoreD (lv' := [(8, .int l4), (7, .int 3), (6, .int 0), (0, .ref 7), (1, .int a0), (4, .int l4), (5, .int l5)]) (by decide) rfl ?_
        refine wa_pick [3, 4, 6, 2, 1, 0] rfl ?_
        have hi6 : ∀ (n9_52 : Nat) (l6 : Int32) (l7 : Int32) (l8 : Int32), (True) → (2147483647 - l8.toInt).toNat = n9_52 → WA G M_X2_within (ZM G M_X2_within d (fun r σ' => ∃ x : Int32, r = some (.int x) ∧ σ = σ' ∧ True)) B_X2_within_52 [(0, .ref 7), (1, .int a0), (5, .int l5), (6, .int l6), (7, .int l7), (8, .int l8)] [] σ := by
          intro n9_52
          induction n9_52 using Nat.strongRecOn with
          | _ n9_52 ih5 =>
            intro l6 l7 l8  i9 m9_52
            have ul6 := Int32.toInt_lt l6
            have wl6 := Int32.le_toInt l6
            have ul7 := Int32.toInt_lt l7
            have wl7 := Int32.le_toInt l7
            have ul8 := Int32.toInt_lt l8
            have wl8 := Int32.le_toInt l8
            refine wa_iload rfl ?_
            refine wa_iload rfl ?_
            refine wa_icmp_ge o_X2_within_156 (by decide) (fun h7 => ?_) (fun h7 => ?_)
            · refine wa_iload rfl ?_
              refine wa_ireturn rfl rfl ?_
              exact ⟨_, rfl, rfl, trivial⟩
            · have mh7 := nle_mx h7
              refine wa_aload_n (i := 0) rfl rfl ?_
              refine wa_iload_n (i := 1) rfl rfl ?_
              refine wa_iload rfl ?_
              refine wa_Vi (d9 := d - 1) [.int _, .int _] [] (sp_X2_token G (d := d - 1) (by omega) σ _ _) (rfl) rfl rfl (zr (by omega)) mk_X2_token ly_7 ml_2_74 (Nat.le_of_ble_eq_true rfl) (fun x9 s8 hs8 => ?_)
              obtain ⟨zs8, -⟩ := pI hs8
              subst zs8
              refine wa_bipush (v := 63) (by decide) ?_
              refine wa_iand ?_
              refine wa_top (fun v10 hv10 => ?_)
              have tv10 := i_andT hv10
              clear hv10
              refine wa_istoreD (lv' := [(9, .int v10), (0, .ref 7), (1, .int a0), (5, .int l5), (6, .int l6), (7, .int l7), (8, .int l8)]) (by decide) rfl ?_
              refine wa_iload rfl ?_
              refine wa_iload rfl ?_
              refine wa_iconst (v := 4) (by decide) ?_
              refine wa_icmp_ne o_X2_within_83 (by decide) (fun h11 => ?_) (fun h11 => ?_)
              · refine wa_iload rfl ?_
                refine wa_iconst (v := 5) (by decide) ?_
                refine wa_icmp_ne o_X2_within_93 (by decide) (fun h12 => ?_) (fun h12 => ?_)
                · refine wa_iconst (v := 0) (by decide) ?_
                  refine wa_iadd ?_
                  refine wa_top (fun v13 hv13 => ?_)
                  have tv13 := i_addT hv13
                  clear hv13
                  refine wa_istoreD (lv' := [(6, .int v13), (9, .int v10), (0, .ref 7), (1, .int a0), (5, .int l5), (7, .int l7), (8, .int l8)]) (by decide) rfl ?_
                  refine wa_iload rfl ?_
                  refine wa_if_ne o_X2_within_150 (by decide) (fun h14 => ?_) (fun h14 => ?_)
                  · refine wa_iinc (v := (1)) (lv' := fun y15 => [(8, .int y15), (6, .int v13), (9, .int v10), (0, .ref 7), (1, .int a0), (5, .int l5), (7, .int l7)]) (by decide) rfl (by decide) (fun _ => rfl) (fun y15 hy15 => ?_)
                    have ty15 := i_addT hy15.symm
                    clear hy15
                    refine wa_goto o_X2_within_52 (by decide) ?_
                    refine wa_pick [3, 4, 5, 1, 6, 0] rfl ?_
                    exact ih5 _ (by ((try simp only [vp_in_iff, Int32.lt_iff_toInt_lt, Int32.le_iff_toInt_le, ← Int32.toInt_inj, Int32.reduceToInt, n_1, n_2, n_8, Int32.toNatClampNeg, Int64.lt_iff_toInt_lt, Int64.le_iff_toInt_le, ← Int64.toInt_inj, Int64.reduceToInt, Int32.toInt_toInt64, lg_cmp_ge, lg_cmp_le, lg_cmp_gt, lg_cmp_lt, lg_cmp_eq, Bool.false_eq_true, Bool.true_eq_false, reduceCtorEq, false_iff, true_iff, iff_true, iff_false, and_true, true_and, and_false, false_and, reduceIte, ite_true, ite_false, eq_self] at *)) <;> omega) _ _ _ trivial rfl
                  · refine wa_iload rfl ?_
                    refine wa_iload rfl ?_
                    refine wa_bipush (v := 19) (by decide) ?_
                    refine wa_icmp_eq o_X2_within_118 (by decide) (fun h16 => ?_) (fun h16 => ?_)
                    · refine wa_iconst (v := 0) (by decide) ?_
                      refine wa_goto o_X2_within_145 (by decide) ?_
                      refine wa_minI zs (allW_in (kT_6 _ (List.mem_of_getElem? (i := 38) rfl)) rfl) (Nat.le_of_ble_eq_true rfl) ?_
                      refine wa_top (fun v17 hv17 => ?_)
                      have tv17 := i_minI hv17
                      clear hv17
                      refine wa_istoreD (lv' := [(7, .int v17), (6, .int v13), (9, .int v10), (0, .ref 7), (1, .int a0), (5, .int l5), (8, .int l8)]) (by decide) rfl ?_
                      refine wa_iinc (v := (1)) (lv' := fun y18 => [(8, .int y18), (7, .int v17), (6, .int v13), (9, .int v10), (0, .ref 7), (1, .int a0), (5, .int l5)]) (by decide) rfl (by decide) (fun _ => rfl) (fun y18 hy18 => ?_)
                      have ty18 := i_addT hy18.symm
                      clear hy18
                      refine wa_goto o_X2_within_52 (by decide) ?_
                      refine wa_pick [4, 5, 6, 2, 1, 0] rfl ?_
                      exact ih5 _ (by ((try simp only [vp_in_iff, Int32.lt_iff_toInt_lt, Int32.le_iff_toInt_le, ← Int32.toInt_inj, Int32.reduceToInt, n_1, n_2, n_8, Int32.toNatClampNeg, Int64.lt_iff_toInt_lt, Int64.le_iff_toInt_le, ← Int64.toInt_inj, Int64.reduceToInt, Int32.toInt_toInt64, lg_cmp_ge, lg_cmp_le, lg_cmp_gt, lg_cmp_lt, lg_cmp_eq, Bool.false_eq_true, Bool.true_eq_false, reduceCtorEq, false_iff, true_iff, iff_true, iff_false, and_true, true_and, and_false, false_and, reduceIte, ite_true, ite_false, eq_self] at *)) <;> omega) _ _ _ trivial rfl
                    · refine wa_iload rfl ?_
                      refine wa_bipush (v := 20) (by decide) ?_
                      refine wa_icmp_ne o_X2_within_122 (by decide) (fun h19 => ?_) (fun h19 => ?_)
                      · refine wa_iload rfl ?_
                        refine wa_bipush (v := 24) (by decide) ?_
                        refine wa_icmp_ne o_X2_within_133 (by decide) (fun h20 => ?_) (fun h20 => ?_)
                        · refine wa_iload rfl ?_
                          refine wa_bipush (v := 23) (by decide) ?_
                          refine wa_icmp_ne o_X2_within_144 (by decide) (fun h21 => ?_) (fun h21 => ?_)
                          · refine wa_iconst (v := 3) (by decide) ?_
                            refine wa_minI zs (allW_in (kT_6 _ (List.mem_of_getElem? (i := 38) rfl)) rfl) (Nat.le_of_ble_eq_true rfl) ?_
                            refine wa_top (fun v22 hv22 => ?_)
                            have tv22 := i_minI hv22
                            clear hv22
                            refine wa_istoreD (lv' := [(7, .int v22), (6, .int v13), (9, .int v10), (0, .ref 7), (1, .int a0), (5, .int l5), (8, .int l8)]) (by decide) rfl ?_
                            refine wa_iinc (v := (1)) (lv' := fun y23 => [(8, .int y23), (7, .int v22), (6, .int v13), (9, .int v10), (0, .ref 7), (1, .int a0), (5, .int l5)]) (by decide) rfl (by decide) (fun _ => rfl) (fun y23 hy23 => ?_)
                            have ty23 := i_addT hy23.symm
                            clear hy23
                            refine wa_goto o_X2_within_52 (by decide) ?_
                            refine wa_pick [4, 5, 6, 2, 1, 0] rfl ?_
                            exact ih5 _ (by ((try simp only [vp_in_iff, Int32.lt_iff_toInt_lt, Int32.le_iff_toInt_le, ← Int32.toInt_inj, Int32.reduceToInt, n_1, n_2, n_8, Int32.toNatClampNeg, Int64.lt_iff_toInt_lt, Int64.le_iff_toInt_le, ← Int64.toInt_inj, Int64.reduceToInt, Int32.toInt_toInt64, lg_cmp_ge, lg_cmp_le, lg_cmp_gt, lg_cmp_lt, lg_cmp_eq, Bool.false_eq_true, Bool.true_eq_false, reduceCtorEq, false_iff, true_iff, iff_true, iff_false, and_true, true_and, and_false, false_and, reduceIte, ite_true, ite_false, eq_self] at *)) <;> omega) _ _ _ trivial rfl
                          · refine wa_iconst (v := 2) (by decide) ?_
                            refine wa_goto o_X2_within_145 (by decide) ?_
                            refine wa_minI zs (allW_in (kT_6 _ (List.mem_of_getElem? (i := 38) rfl)) rfl) (Nat.le_of_ble_eq_true rfl) ?_
                            refine wa_top (fun v24 hv24 => ?_)
                            have tv24 := i_minI hv24
                            clear hv24
                            refine wa_istoreD (lv' := [(7, .int v24), (6, .int v13), (9, .int v10), (0, .ref 7), (1, .int a0), (5, .int l5), (8, .int l8)]) (by decide) rfl ?_
                            refine wa_iinc (v := (1)) (lv' := fun y25 => [(8, .int y25), (7, .int v24), (6, .int v13), (9, .int v10), (0, .ref 7), (1, .int a0), (5, .int l5)]) (by decide) rfl (by decide) (fun _ => rfl) (fun y25 hy25 => ?_)
                            have ty25 := i_addT hy25.symm
                            clear hy25
                            refine wa_goto o_X2_within_52 (by decide) ?_
                            refine wa_pick [4, 5, 6, 2, 1, 0] rfl ?_
                            exact ih5 _ (by ((try simp only [vp_in_iff, Int32.lt_iff_toInt_lt, Int32.le_iff_toInt_le, ← Int32.toInt_inj, Int32.reduceToInt, n_1, n_2, n_8, Int32.toNatClampNeg, Int64.lt_iff_toInt_lt, Int64.le_iff_toInt_le, ← Int64.toInt_inj, Int64.reduceToInt, Int32.toInt_toInt64, lg_cmp_ge, lg_cmp_le, lg_cmp_gt, lg_cmp_lt, lg_cmp_eq, Bool.false_eq_true, Bool.true_eq_false, reduceCtorEq, false_iff, true_iff, iff_true, iff_false, and_true, true_and, and_false, false_and, reduceIte, ite_true, ite_false, eq_self] at *)) <;> omega) _ _ _ trivial rfl
                        · refine wa_iconst (v := 1) (by decide) ?_
                          refine wa_goto o_X2_within_145 (by decide) ?_
                          refine wa_minI zs (allW_in (kT_6 _ (List.mem_of_getElem? (i := 38) rfl)) rfl) (Nat.le_of_ble_eq_true rfl) ?_
                          refine wa_top (fun v26 hv26 => ?_)
                          have tv26 := i_minI hv26
                          clear hv26
                          refine wa_istoreD (lv' := [(7, .int v26), (6, .int v13), (9, .int v10), (0, .ref 7), (1, .int a0), (5, .int l5), (8, .int l8)]) (by decide) rfl ?_
                          refine wa_iinc (v := (1)) (lv' := fun y27 => [(8, .int y27), (7, .int v26), (6, .int v13), (9, .int v10), (0, .ref 7), (1, .int a0), (5, .int l5)]) (by decide) rfl (by decide) (fun _ => rfl) (fun y27 hy27 => ?_)
                          have ty27 := i_addT hy27.symm
                          clear hy27
                          refine wa_goto o_X2_within_52 (by decide) ?_
                          refine wa_pick [4, 5, 6, 2, 1, 0] rfl ?_
                          exact ih5 _ (by ((try simp only [vp_in_iff, Int32.lt_iff_toInt_lt, Int32.le_iff_toInt_le, ← Int32.toInt_inj, Int32.reduceToInt, n_1, n_2, n_8, Int32.toNatClampNeg, Int64.lt_iff_toInt_lt, Int64.le_iff_toInt_le, ← Int64.toInt_inj, Int64.reduceToInt, Int32.toInt_toInt64, lg_cmp_ge, lg_cmp_le, lg_cmp_gt, lg_cmp_lt, lg_cmp_eq, Bool.false_eq_true, Bool.true_eq_false, reduceCtorEq, false_iff, true_iff, iff_true, iff_false, and_true, true_and, and_false, false_and, reduceIte, ite_true, ite_false, eq_self] at *)) <;> omega) _ _ _ trivial rfl
                      · refine wa_iconst (v := 0) (by decide) ?_
                        refine wa_goto o_X2_within_145 (by decide) ?_
                        refine wa_minI zs (allW_in (kT_6 _ (List.mem_of_getElem? (i := 38) rfl)) rfl) (Nat.le_of_ble_eq_true rfl) ?_
                        refine wa_top (fun v28 hv28 => ?_)
                        have tv28 := i_minI hv28
                        clear hv28
                        refine wa_istoreD (lv' := [(7, .int v28), (6, .int v13), (9, .int v10), (0, .ref 7), (1, .int a0), (5, .int l5), (8, .int l8)]) (by decide) rfl ?_
                        refine wa_iinc (v := (1)) (lv' := fun y29 => [(8, .int y29), (7, .int v28), (6, .int v13), (9, .int v10), (0, .ref 7), (1, .int a0), (5, .int l5)]) (by decide) rfl (by decide) (fun _ => rfl) (fun y29 hy29 => ?_)
                        have ty29 := i_addT hy29.symm
                        clear hy29
                        refine wa_goto o_X2_within_52 (by decide) ?_
                        refine wa_pick [4, 5, 6, 2, 1, 0] rfl ?_
                        exact ih5 _ (by ((try simp only [vp_in_iff, Int32.lt_iff_toInt_lt, Int32.le_iff_toInt_le, ← Int32.toInt_inj, Int32.reduceToInt, n_1, n_2, n_8, Int32.toNatClampNeg, Int64.lt_iff_toInt_lt, Int64.le_iff_toInt_le, ← Int64.toInt_inj, Int64.reduceToInt, Int32.toInt_toInt64, lg_cmp_ge, lg_cmp_le, lg_cmp_gt, lg_cmp_lt, lg_cmp_eq, Bool.false_eq_true, Bool.true_eq_false, reduceCtorEq, false_iff, true_iff, iff_true, iff_false, and_true, true_and, and_false, false_and, reduceIte, ite_true, ite_false, eq_self] at *)) <;> omega) _ _ _ trivial rfl
                · refine wa_iconst (v := (-1)) (by decide) ?_
                  refine wa_goto o_X2_within_94 (by decide) ?_
                  refine wa_iadd ?_
                  refine wa_top (fun v30 hv30 => ?_)
                  have tv30 := i_addT hv30
                  clear hv30
                  refine wa_istoreD (lv' := [(6, .int v30), (9, .int v10), (0, .ref 7), (1, .int a0), (5, .int l5), (7, .int l7), (8, .int l8)]) (by decide) rfl ?_
                  refine wa_iload rfl ?_
                  refine wa_if_ne o_X2_within_150 (by decide) (fun h31 => ?_) (fun h31 => ?_)
                  · refine wa_iinc (v := (1)) (lv' := fun y32 => [(8, .int y32), (6, .int v30), (9, .int v10), (0, .ref 7), (1, .int a0), (5, .int l5), (7, .int l7)]) (by decide) rfl (by decide) (fun _ => rfl) (fun y32 hy32 => ?_)
                    have ty32 := i_addT hy32.symm
                    clear hy32
                    refine wa_goto o_X2_within_52 (by decide) ?_
                    refine wa_pick [3, 4, 5, 1, 6, 0] rfl ?_
                    exact ih5 _ (by ((try simp only [vp_in_iff, Int32.lt_iff_toInt_lt, Int32.le_iff_toInt_le, ← Int32.toInt_inj, Int32.reduceToInt, n_1, n_2, n_8, Int32.toNatClampNeg, Int64.lt_iff_toInt_lt, Int64.le_iff_toInt_le, ← Int64.toInt_inj, Int64.reduceToInt, Int32.toInt_toInt64, lg_cmp_ge, lg_cmp_le, lg_cmp_gt, lg_cmp_lt, lg_cmp_eq, Bool.false_eq_true, Bool.true_eq_false, reduceCtorEq, false_iff, true_iff, iff_true, iff_false, and_true, true_and, and_false, false_and, reduceIte, ite_true, ite_false, eq_self] at *)) <;> omega) _ _ _ trivial rfl
                  · refine wa_iload rfl ?_
                    refine wa_iload rfl ?_
                    refine wa_bipush (v := 19) (by decide) ?_
                    refine wa_icmp_eq o_X2_within_118 (by decide) (fun h33 => ?_) (fun h33 => ?_)
                    · refine wa_iconst (v := 0) (by decide) ?_
                      refine wa_goto o_X2_within_145 (by decide) ?_
                      refine wa_minI zs (allW_in (kT_6 _ (List.mem_of_getElem? (i := 38) rfl)) rfl) (Nat.le_of_ble_eq_true rfl) ?_
                      refine wa_top (fun v34 hv34 => ?_)
                      have tv34 := i_minI hv34
                      clear hv34
                      refine wa_istoreD (lv' := [(7, .int v34), (6, .int v30), (9, .int v10), (0, .ref 7), (1, .int a0), (5, .int l5), (8, .int l8)]) (by decide) rfl ?_
                      refine wa_iinc (v := (1)) (lv' := fun y35 => [(8, .int y35), (7, .int v34), (6, .int v30), (9, .int v10), (0, .ref 7), (1, .int a0), (5, .int l5)]) (by decide) rfl (by decide) (fun _ => rfl) (fun y35 hy35 => ?_)
                      have ty35 := i_addT hy35.symm
                      clear hy35
                      refine wa_goto o_X2_within_52 (by decide) ?_
                      refine wa_pick [4, 5, 6, 2, 1, 0] rfl ?_
                      exact ih5 _ (by ((try simp only [vp_in_iff, Int32.lt_iff_toInt_lt, Int32.le_iff_toInt_le, ← Int32.toInt_inj, Int32.reduceToInt, n_1, n_2, n_8, Int32.toNatClampNeg, Int64.lt_iff_toInt_lt, Int64.le_iff_toInt_le, ← Int64.toInt_inj, Int64.reduceToInt, Int32.toInt_toInt64, lg_cmp_ge, lg_cmp_le, lg_cmp_gt, lg_cmp_lt, lg_cmp_eq, Bool.false_eq_true, Bool.true_eq_false, reduceCtorEq, false_iff, true_iff, iff_true, iff_false, and_true, true_and, and_false, false_and, reduceIte, ite_true, ite_false, eq_self] at *)) <;> omega) _ _ _ trivial rfl
                    · refine wa_iload rfl ?_
                      refine wa_bipush (v := 20) (by decide) ?_
                      refine wa_icmp_ne o_X2_within_122 (by decide) (fun h36 => ?_) (fun h36 => ?_)
                      · refine wa_iload rfl ?_
                        refine wa_bipush (v := 24) (by decide) ?_
                        refine wa_icmp_ne o_X2_within_133 (by decide) (fun h37 => ?_) (fun h37 => ?_)
                        · refine wa_iload rfl ?_
                          refine wa_bipush (v := 23) (by decide) ?_
                          refine wa_icmp_ne o_X2_within_144 (by decide) (fun h38 => ?_) (fun h38 => ?_)
                          · refine wa_iconst (v := 3) (by decide) ?_
                            refine wa_minI zs (allW_in (kT_6 _ (List.mem_of_getElem? (i := 38) rfl)) rfl) (Nat.le_of_ble_eq_true rfl) ?_
                            refine wa_top (fun v39 hv39 => ?_)
                            have tv39 := i_minI hv39
                            clear hv39
                            refine wa_istoreD (lv' := [(7, .int v39), (6, .int v30), (9, .int v10), (0, .ref 7), (1, .int a0), (5, .int l5), (8, .int l8)]) (by decide) rfl ?_
                            refine wa_iinc (v := (1)) (lv' := fun y40 => [(8, .int y40), (7, .int v39), (6, .int v30), (9, .int v10), (0, .ref 7), (1, .int a0), (5, .int l5)]) (by decide) rfl (by decide) (fun _ => rfl) (fun y40 hy40 => ?_)
                            have ty40 := i_addT hy40.symm
                            clear hy40
                            refine wa_goto o_X2_within_52 (by decide) ?_
                            refine wa_pick [4, 5, 6, 2, 1, 0] rfl ?_
                            exact ih5 _ (by ((try simp only [vp_in_iff, Int32.lt_iff_toInt_lt, Int32.le_iff_toInt_le, ← Int32.toInt_inj, Int32.reduceToInt, n_1, n_2, n_8, Int32.toNatClampNeg, Int64.lt_iff_toInt_lt, Int64.le_iff_toInt_le, ← Int64.toInt_inj, Int64.reduceToInt, Int32.toInt_toInt64, lg_cmp_ge, lg_cmp_le, lg_cmp_gt, lg_cmp_lt, lg_cmp_eq, Bool.false_eq_true, Bool.true_eq_false, reduceCtorEq, false_iff, true_iff, iff_true, iff_false, and_true, true_and, and_false, false_and, reduceIte, ite_true, ite_false, eq_self] at *)) <;> omega) _ _ _ trivial rfl
                          · refine wa_iconst (v := 2) (by decide) ?_
                            refine wa_goto o_X2_within_145 (by decide) ?_
                            refine wa_minI zs (allW_in (kT_6 _ (List.mem_of_getElem? (i := 38) rfl)) rfl) (Nat.le_of_ble_eq_true rfl) ?_
                            refine wa_top (fun v41 hv41 => ?_)
                            have tv41 := i_minI hv41
                            clear hv41
                            refine wa_istoreD (lv' := [(7, .int v41), (6, .int v30), (9, .int v10), (0, .ref 7), (1, .int a0), (5, .int l5), (8, .int l8)]) (by decide) rfl ?_
                            refine wa_iinc (v := (1)) (lv' := fun y42 => [(8, .int y42), (7, .int v41), (6, .int v30), (9, .int v10), (0, .ref 7), (1, .int a0), (5, .int l5)]) (by decide) rfl (by decide) (fun _ => rfl) (fun y42 hy42 => ?_)
                            have ty42 := i_addT hy42.symm
                            clear hy42
                            refine wa_goto o_X2_within_52 (by decide) ?_
                            refine wa_pick [4, 5, 6, 2, 1, 0] rfl ?_
                            exact ih5 _ (by ((try simp only [vp_in_iff, Int32.lt_iff_toInt_lt, Int32.le_iff_toInt_le, ← Int32.toInt_inj, Int32.reduceToInt, n_1, n_2, n_8, Int32.toNatClampNeg, Int64.lt_iff_toInt_lt, Int64.le_iff_toInt_le, ← Int64.toInt_inj, Int64.reduceToInt, Int32.toInt_toInt64, lg_cmp_ge, lg_cmp_le, lg_cmp_gt, lg_cmp_lt, lg_cmp_eq, Bool.false_eq_true, Bool.true_eq_false, reduceCtorEq, false_iff, true_iff, iff_true, iff_false, and_true, true_and, and_false, false_and, reduceIte, ite_true, ite_false, eq_self] at *)) <;> omega) _ _ _ trivial rfl
                        · refine wa_iconst (v := 1) (by decide) ?_
                          refine wa_goto o_X2_within_145 (by decide) ?_
                          refine wa_minI zs (allW_in (kT_6 _ (List.mem_of_getElem? (i := 38) rfl)) rfl) (Nat.le_of_ble_eq_true rfl) ?_
                          refine wa_top (fun v43 hv43 => ?_)
                          have tv43 := i_minI hv43
                          clear hv43
                          refine wa_istoreD (lv' := [(7, .int v43), (6, .int v30), (9, .int v10), (0, .ref 7), (1, .int a0), (5, .int l5), (8, .int l8)]) (by decide) rfl ?_
                          refine wa_iinc (v := (1)) (lv' := fun y44 => [(8, .int y44), (7, .int v43), (6, .int v30), (9, .int v10), (0, .ref 7), (1, .int a0), (5, .int l5)]) (by decide) rfl (by decide) (fun _ => rfl) (fun y44 hy44 => ?_)
                          have ty44 := i_addT hy44.symm
                          clear hy44
                          refine wa_goto o_X2_within_52 (by decide) ?_
                          refine wa_pick [4, 5, 6, 2, 1, 0] rfl ?_
                          exact ih5 _ (by ((try simp only [vp_in_iff, Int32.lt_iff_toInt_lt, Int32.le_iff_toInt_le, ← Int32.toInt_inj, Int32.reduceToInt, n_1, n_2, n_8, Int32.toNatClampNeg, Int64.lt_iff_toInt_lt, Int64.le_iff_toInt_le, ← Int64.toInt_inj, Int64.reduceToInt, Int32.toInt_toInt64, lg_cmp_ge, lg_cmp_le, lg_cmp_gt, lg_cmp_lt, lg_cmp_eq, Bool.false_eq_true, Bool.true_eq_false, reduceCtorEq, false_iff, true_iff, iff_true, iff_false, and_true, true_and, and_false, false_and, reduceIte, ite_true, ite_false, eq_self] at *)) <;> omega) _ _ _ trivial rfl
                      · refine wa_iconst (v := 0) (by decide) ?_
                        refine wa_goto o_X2_within_145 (by decide) ?_
                        refine wa_minI zs (allW_in (kT_6 _ (List.mem_of_getElem? (i := 38) rfl)) rfl) (Nat.le_of_ble_eq_true rfl) ?_
                        refine wa_top (fun v45 hv45 => ?_)
                        have tv45 := i_minI hv45
                        clear hv45
                        refine wa_istoreD (lv' := [(7, .int v45), (6, .int v30), (9, .int v10), (0, .ref 7), (1, .int a0), (5, .int l5), (8, .int l8)]) (by decide) rfl ?_
                        refine wa_iinc (v := (1)) (lv' := fun y46 => [(8, .int y46), (7, .int v45), (6, .int v30), (9, .int v10), (0, .ref 7), (1, .int a0), (5, .int l5)]) (by decide) rfl (by decide) (fun _ => rfl) (fun y46 hy46 => ?_)
                        have ty46 := i_addT hy46.symm
                        clear hy46
                        refine wa_goto o_X2_within_52 (by decide) ?_
                        refine wa_pick [4, 5, 6, 2, 1, 0] rfl ?_
                        exact ih5 _ (by ((try simp only [vp_in_iff, Int32.lt_iff_toInt_lt, Int32.le_iff_toInt_le, ← Int32.toInt_inj, Int32.reduceToInt, n_1, n_2, n_8, Int32.toNatClampNeg, Int64.lt_iff_toInt_lt, Int64.le_iff_toInt_le, ← Int64.toInt_inj, Int64.reduceToInt, Int32.toInt_toInt64, lg_cmp_ge, lg_cmp_le, lg_cmp_gt, lg_cmp_lt, lg_cmp_eq, Bool.false_eq_true, Bool.true_eq_false, reduceCtorEq, false_iff, true_iff, iff_true, iff_false, and_true, true_and, and_false, false_and, reduceIte, ite_true, ite_false, eq_self] at *)) <;> omega) _ _ _ trivial rfl
              · refine wa_iconst (v := 1) (by decide) ?_
                refine wa_goto o_X2_within_94 (by decide) ?_
                refine wa_iadd ?_
                refine wa_top (fun v47 hv47 => ?_)
                have tv47 := i_addT hv47
                clear hv47
                refine wa_istoreD (lv' := [(6, .int v47), (9, .int v10), (0, .ref 7), (1, .int a0), (5, .int l5), (7, .int l7), (8, .int l8)]) (by decide) rfl ?_
                refine wa_iload rfl ?_
                refine wa_if_ne o_X2_within_150 (by decide) (fun h48 => ?_) (fun h48 => ?_)
                · refine wa_iinc (v := (1)) (lv' := fun y49 => [(8, .int y49), (6, .int v47), (9, .int v10), (0, .ref 7), (1, .int a0), (5, .int l5), (7, .int l7)]) (by decide) rfl (by decide) (fun _ => rfl) (fun y49 hy49 => ?_)
                  have ty49 := i_addT hy49.symm
                  clear hy49
                  refine wa_goto o_X2_within_52 (by decide) ?_
                  refine wa_pick [3, 4, 5, 1, 6, 0] rfl ?_
                  exact ih5 _ (by ((try simp only [vp_in_iff, Int32.lt_iff_toInt_lt, Int32.le_iff_toInt_le, ← Int32.toInt_inj, Int32.reduceToInt, n_1, n_2, n_8, Int32.toNatClampNeg, Int64.lt_iff_toInt_lt, Int64.le_iff_toInt_le, ← Int64.toInt_inj, Int64.reduceToInt, Int32.toInt_toInt64, lg_cmp_ge, lg_cmp_le, lg_cmp_gt, lg_cmp_lt, lg_cmp_eq, Bool.false_eq_true, Bool.true_eq_false, reduceCtorEq, false_iff, true_iff, iff_true, iff_false, and_true, true_and, and_false, false_and, reduceIte, ite_true, ite_false, eq_self] at *)) <;> omega) _ _ _ trivial rfl
                · refine wa_iload rfl ?_
                  refine wa_iload rfl ?_
                  refine wa_bipush (v := 19) (by decide) ?_
                  refine wa_icmp_eq o_X2_within_118 (by decide) (fun h50 => ?_) (fun h50 => ?_)
                  · refine wa_iconst (v := 0) (by decide) ?_
                    refine wa_goto o_X2_within_145 (by decide) ?_
                    refine wa_minI zs (allW_in (kT_6 _ (List.mem_of_getElem? (i := 38) rfl)) rfl) (Nat.le_of_ble_eq_true rfl) ?_
                    refine wa_top (fun v51 hv51 => ?_)
                    have tv51 := i_minI hv51
                    clear hv51
                    refine wa_istoreD (lv' := [(7, .int v51), (6, .int v47), (9, .int v10), (0, .ref 7), (1, .int a0), (5, .int l5), (8, .int l8)]) (by decide) rfl ?_
                    refine wa_iinc (v := (1)) (lv' := fun y52 => [(8, .int y52), (7, .int v51), (6, .int v47), (9, .int v10), (0, .ref 7), (1, .int a0), (5, .int l5)]) (by decide) rfl (by decide) (fun _ => rfl) (fun y52 hy52 => ?_)
                    have ty52 := i_addT hy52.symm
                    clear hy52
                    refine wa_goto o_X2_within_52 (by decide) ?_
                    refine wa_pick [4, 5, 6, 2, 1, 0] rfl ?_
                    exact ih5 _ (by ((try simp only [vp_in_iff, Int32.lt_iff_toInt_lt, Int32.le_iff_toInt_le, ← Int32.toInt_inj, Int32.reduceToInt, n_1, n_2, n_8, Int32.toNatClampNeg, Int64.lt_iff_toInt_lt, Int64.le_iff_toInt_le, ← Int64.toInt_inj, Int64.reduceToInt, Int32.toInt_toInt64, lg_cmp_ge, lg_cmp_le, lg_cmp_gt, lg_cmp_lt, lg_cmp_eq, Bool.false_eq_true, Bool.true_eq_false, reduceCtorEq, false_iff, true_iff, iff_true, iff_false, and_true, true_and, and_false, false_and, reduceIte, ite_true, ite_false, eq_self] at *)) <;> omega) _ _ _ trivial rfl
                  · refine wa_iload rfl ?_
                    refine wa_bipush (v := 20) (by decide) ?_
                    refine wa_icmp_ne o_X2_within_122 (by decide) (fun h53 => ?_) (fun h53 => ?_)
                    · refine wa_iload rfl ?_
                      refine wa_bipush (v := 24) (by decide) ?_
                      refine wa_icmp_ne o_X2_within_133 (by decide) (fun h54 => ?_) (fun h54 => ?_)
                      · refine wa_iload rfl ?_
                        refine wa_bipush (v := 23) (by decide) ?_
                        refine wa_icmp_ne o_X2_within_144 (by decide) (fun h55 => ?_) (fun h55 => ?_)
                        · refine wa_iconst (v := 3) (by decide) ?_
                          refine wa_minI zs (allW_in (kT_6 _ (List.mem_of_getElem? (i := 38) rfl)) rfl) (Nat.le_of_ble_eq_true rfl) ?_
                          refine wa_top (fun v56 hv56 => ?_)
                          have tv56 := i_minI hv56
                          clear hv56
                          refine wa_istoreD (lv' := [(7, .int v56), (6, .int v47), (9, .int v10), (0, .ref 7), (1, .int a0), (5, .int l5), (8, .int l8)]) (by decide) rfl ?_
                          refine wa_iinc (v := (1)) (lv' := fun y57 => [(8, .int y57), (7, .int v56), (6, .int v47), (9, .int v10), (0, .ref 7), (1, .int a0), (5, .int l5)]) (by decide) rfl (by decide) (fun _ => rfl) (fun y57 hy57 => ?_)
                          have ty57 := i_addT hy57.symm
                          clear hy57
                          refine wa_goto o_X2_within_52 (by decide) ?_
                          refine wa_pick [4, 5, 6, 2, 1, 0] rfl ?_
                          exact ih5 _ (by ((try simp only [vp_in_iff, Int32.lt_iff_toInt_lt, Int32.le_iff_toInt_le, ← Int32.toInt_inj, Int32.reduceToInt, n_1, n_2, n_8, Int32.toNatClampNeg, Int64.lt_iff_toInt_lt, Int64.le_iff_toInt_le, ← Int64.toInt_inj, Int64.reduceToInt, Int32.toInt_toInt64, lg_cmp_ge, lg_cmp_le, lg_cmp_gt, lg_cmp_lt, lg_cmp_eq, Bool.false_eq_true, Bool.true_eq_false, reduceCtorEq, false_iff, true_iff, iff_true, iff_false, and_true, true_and, and_false, false_and, reduceIte, ite_true, ite_false, eq_self] at *)) <;> omega) _ _ _ trivial rfl
                        · refine wa_iconst (v := 2) (by decide) ?_
                          refine wa_goto o_X2_within_145 (by decide) ?_
                          refine wa_minI zs (allW_in (kT_6 _ (List.mem_of_getElem? (i := 38) rfl)) rfl) (Nat.le_of_ble_eq_true rfl) ?_
                          refine wa_top (fun v58 hv58 => ?_)
                          have tv58 := i_minI hv58
                          clear hv58
                          refine wa_istoreD (lv' := [(7, .int v58), (6, .int v47), (9, .int v10), (0, .ref 7), (1, .int a0), (5, .int l5), (8, .int l8)]) (by decide) rfl ?_
                          refine wa_iinc (v := (1)) (lv' := fun y59 => [(8, .int y59), (7, .int v58), (6, .int v47), (9, .int v10), (0, .ref 7), (1, .int a0), (5, .int l5)]) (by decide) rfl (by decide) (fun _ => rfl) (fun y59 hy59 => ?_)
                          have ty59 := i_addT hy59.symm
                          clear hy59
                          refine wa_goto o_X2_within_52 (by decide) ?_
                          refine wa_pick [4, 5, 6, 2, 1, 0] rfl ?_
                          exact ih5 _ (by ((try simp only [vp_in_iff, Int32.lt_iff_toInt_lt, Int32.le_iff_toInt_le, ← Int32.toInt_inj, Int32.reduceToInt, n_1, n_2, n_8, Int32.toNatClampNeg, Int64.lt_iff_toInt_lt, Int64.le_iff_toInt_le, ← Int64.toInt_inj, Int64.reduceToInt, Int32.toInt_toInt64, lg_cmp_ge, lg_cmp_le, lg_cmp_gt, lg_cmp_lt, lg_cmp_eq, Bool.false_eq_true, Bool.true_eq_false, reduceCtorEq, false_iff, true_iff, iff_true, iff_false, and_true, true_and, and_false, false_and, reduceIte, ite_true, ite_false, eq_self] at *)) <;> omega) _ _ _ trivial rfl
                      · refine wa_iconst (v := 1) (by decide) ?_
                        refine wa_goto o_X2_within_145 (by decide) ?_
                        refine wa_minI zs (allW_in (kT_6 _ (List.mem_of_getElem? (i := 38) rfl)) rfl) (Nat.le_of_ble_eq_true rfl) ?_
                        refine wa_top (fun v60 hv60 => ?_)
                        have tv60 := i_minI hv60
                        clear hv60
                        refine wa_istoreD (lv' := [(7, .int v60), (6, .int v47), (9, .int v10), (0, .ref 7), (1, .int a0), (5, .int l5), (8, .int l8)]) (by decide) rfl ?_
                        refine wa_iinc (v := (1)) (lv' := fun y61 => [(8, .int y61), (7, .int v60), (6, .int v47), (9, .int v10), (0, .ref 7), (1, .int a0), (5, .int l5)]) (by decide) rfl (by decide) (fun _ => rfl) (fun y61 hy61 => ?_)
                        have ty61 := i_addT hy61.symm
                        clear hy61
                        refine wa_goto o_X2_within_52 (by decide) ?_
                        refine wa_pick [4, 5, 6, 2, 1, 0] rfl ?_
                        exact ih5 _ (by ((try simp only [vp_in_iff, Int32.lt_iff_toInt_lt, Int32.le_iff_toInt_le, ← Int32.toInt_inj, Int32.reduceToInt, n_1, n_2, n_8, Int32.toNatClampNeg, Int64.lt_iff_toInt_lt, Int64.le_iff_toInt_le, ← Int64.toInt_inj, Int64.reduceToInt, Int32.toInt_toInt64, lg_cmp_ge, lg_cmp_le, lg_cmp_gt, lg_cmp_lt, lg_cmp_eq, Bool.false_eq_true, Bool.true_eq_false, reduceCtorEq, false_iff, true_iff, iff_true, iff_false, and_true, true_and, and_false, false_and, reduceIte, ite_true, ite_false, eq_self] at *)) <;> omega) _ _ _ trivial rfl
                    · refine wa_iconst (v := 0) (by decide) ?_
                      refine wa_goto o_X2_within_145 (by decide) ?_
                      refine wa_minI zs (allW_in (kT_6 _ (List.mem_of_getElem? (i := 38) rfl)) rfl) (Nat.le_of_ble_eq_true rfl) ?_
                      refine wa_top (fun v62 hv62 => ?_)
                      have tv62 := i_minI hv62
                      clear hv62
                      refine wa_istoreD (lv' := [(7, .int v62), (6, .int v47), (9, .int v10), (0, .ref 7), (1, .int a0), (5, .int l5), (8, .int l8)]) (by decide) rfl ?_
                      refine wa_iinc (v := (1)) (lv' := fun y63 => [(8, .int y63), (7, .int v62), (6, .int v47), (9, .int v10), (0, .ref 7), (1, .int a0), (5, .int l5)]) (by decide) rfl (by decide) (fun _ => rfl) (fun y63 hy63 => ?_)
                      have ty63 := i_addT hy63.symm
                      clear hy63
                      refine wa_goto o_X2_within_52 (by decide) ?_
                      refine wa_pick [4, 5, 6, 2, 1, 0] rfl ?_
                      exact ih5 _ (by ((try simp only [vp_in_iff, Int32.lt_iff_toInt_lt, Int32.le_iff_toInt_le, ← Int32.toInt_inj, Int32.reduceToInt, n_1, n_2, n_8, Int32.toNatClampNeg, Int64.lt_iff_toInt_lt, Int64.le_iff_toInt_le, ← Int64.toInt_inj, Int64.reduceToInt, Int32.toInt_toInt64, lg_cmp_ge, lg_cmp_le, lg_cmp_gt, lg_cmp_lt, lg_cmp_eq, Bool.false_eq_true, Bool.true_eq_false, reduceCtorEq, false_iff, true_iff, iff_true, iff_false, and_true, true_and, and_false, false_and, reduceIte, ite_true, ite_false, eq_self] at *)) <;> omega) _ _ _ trivial rfl
        exact hi6 _ _ _ _ trivial rfl
      · have mh4 := nle_mx h4
        refine wa_aload_n (i := 0) rfl rfl ?_
        refine wa_iload_n (i := 1) rfl rfl ?_
        refine wa_iload rfl ?_
        refine wa_iload rfl ?_
        refine wa_Vi (d9 := d - 1) [.int _, .int _, .int _] [] (sp_X2_isAllWithin G (d := d - 1) (by omega) σ _ _ _) (rfl) rfl rfl (zr (by omega)) mk_X2_isAllWithin ly_7 ml_2_104 (Nat.le_of_ble_eq_true rfl) (fun x65 s64 hs64 => ?_)
        obtain ⟨bx65, ex65, zs64, -⟩ := pB hs64
        subst ex65
        subst zs64
        refine wa_if_eq o_X2_within_42 (by decide) (fun h66 => ?_) (fun h66 => ?_)
        · replace h66 := bI_f (b := bx65) (rfl) h66
          refine wa_iconst (v := 0) (by decide) ?_
          refine wa_istoreD (lv' := [(6, .int 0), (0, .ref 7), (1, .int a0), (4, .int l4), (5, .int l5)]) (by decide) rfl ?_
          refine wa_iconst (v := 3) (by decide) ?_
          refine wa_istoreD (lv' := [(7, .int 3), (6, .int 0), (0, .ref 7), (1, .int a0), (4, .int l4), (5, .int l5)]) (by decide) rfl ?_
          refine wa_iload rfl ?_
          refine wa_istoreD (lv' := [(8, .int l4), (7, .int 3), (6, .int 0), (0, .ref 7), (1, .int a0), (4, .int l4), (5, .int l5)]) (by decide) rfl ?_
          refine wa_pick [3, 4, 6, 2, 1, 0] rfl ?_
          have hi68 : ∀ (n9_52 : Nat) (l6 : Int32) (l7 : Int32) (l8 : Int32), (True) → (2147483647 - l8.toInt).toNat = n9_52 → WA G M_X2_within (ZM G M_X2_within d (fun r σ' => ∃ x : Int32, r = some (.int x) ∧ σ = σ' ∧ True)) B_X2_within_52 [(0, .ref 7), (1, .int a0), (5, .int l5), (6, .int l6), (7, .int l7), (8, .int l8)] [] σ := by
            intro n9_52
            induction n9_52 using Nat.strongRecOn with
            | _ n9_52 ih67 =>
              intro l6 l7 l8  i9 m9_52
              have ul6 := Int32.toInt_lt l6
              have wl6 := Int32.le_toInt l6
              have ul7 := Int32.toInt_lt l7
              have wl7 := Int32.le_toInt l7
              have ul8 := Int32.toInt_lt l8
              have wl8 := Int32.le_toInt l8
              refine wa_iload rfl ?_
              refine wa_iload rfl ?_
              refine wa_icmp_ge o_X2_within_156 (by decide) (fun h69 => ?_) (fun h69 => ?_)
              · refine wa_iload rfl ?_
                refine wa_ireturn rfl rfl ?_
                exact ⟨_, rfl, rfl, trivial⟩
              · have mh69 := nle_mx h69
                refine wa_aload_n (i := 0) rfl rfl ?_
                refine wa_iload_n (i := 1) rfl rfl ?_
                refine wa_iload rfl ?_
                refine wa_Vi (d9 := d - 1) [.int _, .int _] [] (sp_X2_token G (d := d - 1) (by omega) σ _ _) (rfl) rfl rfl (zr (by omega)) mk_X2_token ly_7 ml_2_74 (Nat.le_of_ble_eq_true rfl) (fun x71 s70 hs70 => ?_)
                obtain ⟨zs70, -⟩ := pI hs70
                subst zs70
                refine wa_bipush (v := 63) (by decide) ?_
                refine wa_iand ?_
                refine wa_top (fun v72 hv72 => ?_)
                have tv72 := i_andT hv72
                clear hv72
                refine wa_istoreD (lv' := [(9, .int v72), (0, .ref 7), (1, .int a0), (5, .int l5), (6, .int l6), (7, .int l7), (8, .int l8)]) (by decide) rfl ?_
                refine wa_iload rfl ?_
                refine wa_iload rfl ?_
                refine wa_iconst (v := 4) (by decide) ?_
                refine wa_icmp_ne o_X2_within_83 (by decide) (fun h73 => ?_) (fun h73 => ?_)
                · refine wa_iload rfl ?_
                  refine wa_iconst (v := 5) (by decide) ?_
                  refine wa_icmp_ne o_X2_within_93 (by decide) (fun h74 => ?_) (fun h74 => ?_)
                  · refine wa_iconst (v := 0) (by decide) ?_
                    refine wa_iadd ?_
                    refine wa_top (fun v75 hv75 => ?_)
                    have tv75 := i_addT hv75
                    clear hv75
                    refine wa_istoreD (lv' := [(6, .int v75), (9, .int v72), (0, .ref 7), (1, .int a0), (5, .int l5), (7, .int l7), (8, .int l8)]) (by decide) rfl ?_
                    refine wa_iload rfl ?_
                    refine wa_if_ne o_X2_within_150 (by decide) (fun h76 => ?_) (fun h76 => ?_)
                    · refine wa_iinc (v := (1)) (lv' := fun y77 => [(8, .int y77), (6, .int v75), (9, .int v72), (0, .ref 7), (1, .int a0), (5, .int l5), (7, .int l7)]) (by decide) rfl (by decide) (fun _ => rfl) (fun y77 hy77 => ?_)
                      have ty77 := i_addT hy77.symm
                      clear hy77
                      refine wa_goto o_X2_within_52 (by decide) ?_
                      refine wa_pick [3, 4, 5, 1, 6, 0] rfl ?_
                      exact ih67 _ (by ((try simp only [vp_in_iff, Int32.lt_iff_toInt_lt, Int32.le_iff_toInt_le, ← Int32.toInt_inj, Int32.reduceToInt, n_1, n_2, n_8, Int32.toNatClampNeg, Int64.lt_iff_toInt_lt, Int64.le_iff_toInt_le, ← Int64.toInt_inj, Int64.reduceToInt, Int32.toInt_toInt64, lg_cmp_ge, lg_cmp_le, lg_cmp_gt, lg_cmp_lt, lg_cmp_eq, Bool.false_eq_true, Bool.true_eq_false, reduceCtorEq, false_iff, true_iff, iff_true, iff_false, and_true, true_and, and_false, false_and, reduceIte, ite_true, ite_false, eq_self] at *)) <;> omega) _ _ _ trivial rfl
                    · refine wa_iload rfl ?_
                      refine wa_iload rfl ?_
                      refine wa_bipush (v := 19) (by decide) ?_
                      refine wa_icmp_eq o_X2_within_118 (by decide) (fun h78 => ?_) (fun h78 => ?_)
                      · refine wa_iconst (v := 0) (by decide) ?_
                        refine wa_goto o_X2_within_145 (by decide) ?_
                        refine wa_minI zs (allW_in (kT_6 _ (List.mem_of_getElem? (i := 38) rfl)) rfl) (Nat.le_of_ble_eq_true rfl) ?_
                        refine wa_top (fun v79 hv79 => ?_)
                        have tv79 := i_minI hv79
                        clear hv79
                        refine wa_istoreD (lv' := [(7, .int v79), (6, .int v75), (9, .int v72), (0, .ref 7), (1, .int a0), (5, .int l5), (8, .int l8)]) (by decide) rfl ?_
                        refine wa_iinc (v := (1)) (lv' := fun y80 => [(8, .int y80), (7, .int v79), (6, .int v75), (9, .int v72), (0, .ref 7), (1, .int a0), (5, .int l5)]) (by decide) rfl (by decide) (fun _ => rfl) (fun y80 hy80 => ?_)
                        have ty80 := i_addT hy80.symm
                        clear hy80
                        refine wa_goto o_X2_within_52 (by decide) ?_
                        refine wa_pick [4, 5, 6, 2, 1, 0] rfl ?_
                        exact ih67 _ (by ((try simp only [vp_in_iff, Int32.lt_iff_toInt_lt, Int32.le_iff_toInt_le, ← Int32.toInt_inj, Int32.reduceToInt, n_1, n_2, n_8, Int32.toNatClampNeg, Int64.lt_iff_toInt_lt, Int64.le_iff_toInt_le, ← Int64.toInt_inj, Int64.reduceToInt, Int32.toInt_toInt64, lg_cmp_ge, lg_cmp_le, lg_cmp_gt, lg_cmp_lt, lg_cmp_eq, Bool.false_eq_true, Bool.true_eq_false, reduceCtorEq, false_iff, true_iff, iff_true, iff_false, and_true, true_and, and_false, false_and, reduceIte, ite_true, ite_false, eq_self] at *)) <;> omega) _ _ _ trivial rfl
                      · refine wa_iload rfl ?_
                        refine wa_bipush (v := 20) (by decide) ?_
                        refine wa_icmp_ne o_X2_within_122 (by decide) (fun h81 => ?_) (fun h81 => ?_)
                        · refine wa_iload rfl ?_
                          refine wa_bipush (v := 24) (by decide) ?_
                          refine wa_icmp_ne o_X2_within_133 (by decide) (fun h82 => ?_) (fun h82 => ?_)
                          · refine wa_iload rfl ?_
                            refine wa_bipush (v := 23) (by decide) ?_
                            refine wa_icmp_ne o_X2_within_144 (by decide) (fun h83 => ?_) (fun h83 => ?_)
                            · refine wa_iconst (v := 3) (by decide) ?_
                              refine wa_minI zs (allW_in (kT_6 _ (List.mem_of_getElem? (i := 38) rfl)) rfl) (Nat.le_of_ble_eq_true rfl) ?_
                              refine wa_top (fun v84 hv84 => ?_)
                              have tv84 := i_minI hv84
                              clear hv84
                              refine wa_istoreD (lv' := [(7, .int v84), (6, .int v75), (9, .int v72), (0, .ref 7), (1, .int a0), (5, .int l5), (8, .int l8)]) (by decide) rfl ?_
                              refine wa_iinc (v := (1)) (lv' := fun y85 => [(8, .int y85), (7, .int v84), (6, .int v75), (9, .int v72), (0, .ref 7), (1, .int a0), (5, .int l5)]) (by decide) rfl (by decide) (fun _ => rfl) (fun y85 hy85 => ?_)
                              have ty85 := i_addT hy85.symm
                              clear hy85
                              refine wa_goto o_X2_within_52 (by decide) ?_
                              refine wa_pick [4, 5, 6, 2, 1, 0] rfl ?_
                              exact ih67 _ (by ((try simp only [vp_in_iff, Int32.lt_iff_toInt_lt, Int32.le_iff_toInt_le, ← Int32.toInt_inj, Int32.reduceToInt, n_1, n_2, n_8, Int32.toNatClampNeg, Int64.lt_iff_toInt_lt, Int64.le_iff_toInt_le, ← Int64.toInt_inj, Int64.reduceToInt, Int32.toInt_toInt64, lg_cmp_ge, lg_cmp_le, lg_cmp_gt, lg_cmp_lt, lg_cmp_eq, Bool.false_eq_true, Bool.true_eq_false, reduceCtorEq, false_iff, true_iff, iff_true, iff_false, and_true, true_and, and_false, false_and, reduceIte, ite_true, ite_false, eq_self] at *)) <;> omega) _ _ _ trivial rfl
                            · refine wa_iconst (v := 2) (by decide) ?_
                              refine wa_goto o_X2_within_145 (by decide) ?_
                              refine wa_minI zs (allW_in (kT_6 _ (List.mem_of_getElem? (i := 38) rfl)) rfl) (Nat.le_of_ble_eq_true rfl) ?_
                              refine wa_top (fun v86 hv86 => ?_)
                              have tv86 := i_minI hv86
                              clear hv86
                              refine wa_istoreD (lv' := [(7, .int v86), (6, .int v75), (9, .int v72), (0, .ref 7), (1, .int a0), (5, .int l5), (8, .int l8)]) (by decide) rfl ?_
                              refine wa_iinc (v := (1)) (lv' := fun y87 => [(8, .int y87), (7, .int v86), (6, .int v75), (9, .int v72), (0, .ref 7), (1, .int a0), (5, .int l5)]) (by decide) rfl (by decide) (fun _ => rfl) (fun y87 hy87 => ?_)
                              have ty87 := i_addT hy87.symm
                              clear hy87
                              refine wa_goto o_X2_within_52 (by decide) ?_
                              refine wa_pick [4, 5, 6, 2, 1, 0] rfl ?_
                              exact ih67 _ (by ((try simp only [vp_in_iff, Int32.lt_iff_toInt_lt, Int32.le_iff_toInt_le, ← Int32.toInt_inj, Int32.reduceToInt, n_1, n_2, n_8, Int32.toNatClampNeg, Int64.lt_iff_toInt_lt, Int64.le_iff_toInt_le, ← Int64.toInt_inj, Int64.reduceToInt, Int32.toInt_toInt64, lg_cmp_ge, lg_cmp_le, lg_cmp_gt, lg_cmp_lt, lg_cmp_eq, Bool.false_eq_true, Bool.true_eq_false, reduceCtorEq, false_iff, true_iff, iff_true, iff_false, and_true, true_and, and_false, false_and, reduceIte, ite_true, ite_false, eq_self] at *)) <;> omega) _ _ _ trivial rfl
                          · refine wa_iconst (v := 1) (by decide) ?_
                            refine wa_goto o_X2_within_145 (by decide) ?_
                            refine wa_minI zs (allW_in (kT_6 _ (List.mem_of_getElem? (i := 38) rfl)) rfl) (Nat.le_of_ble_eq_true rfl) ?_
                            refine wa_top (fun v88 hv88 => ?_)
                            have tv88 := i_minI hv88
                            clear hv88
                            refine wa_istoreD (lv' := [(7, .int v88), (6, .int v75), (9, .int v72), (0, .ref 7), (1, .int a0), (5, .int l5), (8, .int l8)]) (by decide) rfl ?_
                            refine wa_iinc (v := (1)) (lv' := fun y89 => [(8, .int y89), (7, .int v88), (6, .int v75), (9, .int v72), (0, .ref 7), (1, .int a0), (5, .int l5)]) (by decide) rfl (by decide) (fun _ => rfl) (fun y89 hy89 => ?_)
                            have ty89 := i_addT hy89.symm
                            clear hy89
                            refine wa_goto o_X2_within_52 (by decide) ?_
                            refine wa_pick [4, 5, 6, 2, 1, 0] rfl ?_
                            exact ih67 _ (by ((try simp only [vp_in_iff, Int32.lt_iff_toInt_lt, Int32.le_iff_toInt_le, ← Int32.toInt_inj, Int32.reduceToInt, n_1, n_2, n_8, Int32.toNatClampNeg, Int64.lt_iff_toInt_lt, Int64.le_iff_toInt_le, ← Int64.toInt_inj, Int64.reduceToInt, Int32.toInt_toInt64, lg_cmp_ge, lg_cmp_le, lg_cmp_gt, lg_cmp_lt, lg_cmp_eq, Bool.false_eq_true, Bool.true_eq_false, reduceCtorEq, false_iff, true_iff, iff_true, iff_false, and_true, true_and, and_false, false_and, reduceIte, ite_true, ite_false, eq_self] at *)) <;> omega) _ _ _ trivial rfl
                        · refine wa_iconst (v := 0) (by decide) ?_
                          refine wa_goto o_X2_within_145 (by decide) ?_
                          refine wa_minI zs (allW_in (kT_6 _ (List.mem_of_getElem? (i := 38) rfl)) rfl) (Nat.le_of_ble_eq_true rfl) ?_
                          refine wa_top (fun v90 hv90 => ?_)
                          have tv90 := i_minI hv90
                          clear hv90
                          refine wa_istoreD (lv' := [(7, .int v90), (6, .int v75), (9, .int v72), (0, .ref 7), (1, .int a0), (5, .int l5), (8, .int l8)]) (by decide) rfl ?_
                          refine wa_iinc (v := (1)) (lv' := fun y91 => [(8, .int y91), (7, .int v90), (6, .int v75), (9, .int v72), (0, .ref 7), (1, .int a0), (5, .int l5)]) (by decide) rfl (by decide) (fun _ => rfl) (fun y91 hy91 => ?_)
                          have ty91 := i_addT hy91.symm
                          clear hy91
                          refine wa_goto o_X2_within_52 (by decide) ?_
                          refine wa_pick [4, 5, 6, 2, 1, 0] rfl ?_
                          exact ih67 _ (by ((try simp only [vp_in_iff, Int32.lt_iff_toInt_lt, Int32.le_iff_toInt_le, ← Int32.toInt_inj, Int32.reduceToInt, n_1, n_2, n_8, Int32.toNatClampNeg, Int64.lt_iff_toInt_lt, Int64.le_iff_toInt_le, ← Int64.toInt_inj, Int64.reduceToInt, Int32.toInt_toInt64, lg_cmp_ge, lg_cmp_le, lg_cmp_gt, lg_cmp_lt, lg_cmp_eq, Bool.false_eq_true, Bool.true_eq_false, reduceCtorEq, false_iff, true_iff, iff_true, iff_false, and_true, true_and, and_false, false_and, reduceIte, ite_true, ite_false, eq_self] at *)) <;> omega) _ _ _ trivial rfl
                  · refine wa_iconst (v := (-1)) (by decide) ?_
                    refine wa_goto o_X2_within_94 (by decide) ?_
                    refine wa_iadd ?_
                    refine wa_top (fun v92 hv92 => ?_)
                    have tv92 := i_addT hv92
                    clear hv92
                    refine wa_istoreD (lv' := [(6, .int v92), (9, .int v72), (0, .ref 7), (1, .int a0), (5, .int l5), (7, .int l7), (8, .int l8)]) (by decide) rfl ?_
                    refine wa_iload rfl ?_
                    refine wa_if_ne o_X2_within_150 (by decide) (fun h93 => ?_) (fun h93 => ?_)
                    · refine wa_iinc (v := (1)) (lv' := fun y94 => [(8, .int y94), (6, .int v92), (9, .int v72), (0, .ref 7), (1, .int a0), (5, .int l5), (7, .int l7)]) (by decide) rfl (by decide) (fun _ => rfl) (fun y94 hy94 => ?_)
                      have ty94 := i_addT hy94.symm
                      clear hy94
                      refine wa_goto o_X2_within_52 (by decide) ?_
                      refine wa_pick [3, 4, 5, 1, 6, 0] rfl ?_
                      exact ih67 _ (by ((try simp only [vp_in_iff, Int32.lt_iff_toInt_lt, Int32.le_iff_toInt_le, ← Int32.toInt_inj, Int32.reduceToInt, n_1, n_2, n_8, Int32.toNatClampNeg, Int64.lt_iff_toInt_lt, Int64.le_iff_toInt_le, ← Int64.toInt_inj, Int64.reduceToInt, Int32.toInt_toInt64, lg_cmp_ge, lg_cmp_le, lg_cmp_gt, lg_cmp_lt, lg_cmp_eq, Bool.false_eq_true, Bool.true_eq_false, reduceCtorEq, false_iff, true_iff, iff_true, iff_false, and_true, true_and, and_false, false_and, reduceIte, ite_true, ite_false, eq_self] at *)) <;> omega) _ _ _ trivial rfl
                    · refine wa_iload rfl ?_
                      refine wa_iload rfl ?_
                      refine wa_bipush (v := 19) (by decide) ?_
                      refine wa_icmp_eq o_X2_within_118 (by decide) (fun h95 => ?_) (fun h95 => ?_)
                      · refine wa_iconst (v := 0) (by decide) ?_
                        refine wa_goto o_X2_within_145 (by decide) ?_
                        refine wa_minI zs (allW_in (kT_6 _ (List.mem_of_getElem? (i := 38) rfl)) rfl) (Nat.le_of_ble_eq_true rfl) ?_
                        refine wa_top (fun v96 hv96 => ?_)
                        have tv96 := i_minI hv96
                        clear hv96
                        refine wa_istoreD (lv' := [(7, .int v96), (6, .int v92), (9, .int v72), (0, .ref 7), (1, .int a0), (5, .int l5), (8, .int l8)]) (by decide) rfl ?_
                        refine wa_iinc (v := (1)) (lv' := fun y97 => [(8, .int y97), (7, .int v96), (6, .int v92), (9, .int v72), (0, .ref 7), (1, .int a0), (5, .int l5)]) (by decide) rfl (by decide) (fun _ => rfl) (fun y97 hy97 => ?_)
                        have ty97 := i_addT hy97.symm
                        clear hy97
                        refine wa_goto o_X2_within_52 (by decide) ?_
                        refine wa_pick [4, 5, 6, 2, 1, 0] rfl ?_
                        exact ih67 _ (by ((try simp only [vp_in_iff, Int32.lt_iff_toInt_lt, Int32.le_iff_toInt_le, ← Int32.toInt_inj, Int32.reduceToInt, n_1, n_2, n_8, Int32.toNatClampNeg, Int64.lt_iff_toInt_lt, Int64.le_iff_toInt_le, ← Int64.toInt_inj, Int64.reduceToInt, Int32.toInt_toInt64, lg_cmp_ge, lg_cmp_le, lg_cmp_gt, lg_cmp_lt, lg_cmp_eq, Bool.false_eq_true, Bool.true_eq_false, reduceCtorEq, false_iff, true_iff, iff_true, iff_false, and_true, true_and, and_false, false_and, reduceIte, ite_true, ite_false, eq_self] at *)) <;> omega) _ _ _ trivial rfl
                      · refine wa_iload rfl ?_
                        refine wa_bipush (v := 20) (by decide) ?_
                        refine wa_icmp_ne o_X2_within_122 (by decide) (fun h98 => ?_) (fun h98 => ?_)
                        · refine wa_iload rfl ?_
                          refine wa_bipush (v := 24) (by decide) ?_
                          refine wa_icmp_ne o_X2_within_133 (by decide) (fun h99 => ?_) (fun h99 => ?_)
                          · refine wa_iload rfl ?_
                            refine wa_bipush (v := 23) (by decide) ?_
                            refine wa_icmp_ne o_X2_within_144 (by decide) (fun h100 => ?_) (fun h100 => ?_)
                            · refine wa_iconst (v := 3) (by decide) ?_
                              refine wa_minI zs (allW_in (kT_6 _ (List.mem_of_getElem? (i := 38) rfl)) rfl) (Nat.le_of_ble_eq_true rfl) ?_
                              refine wa_top (fun v101 hv101 => ?_)
                              have tv101 := i_minI hv101
                              clear hv101
                              refine wa_istoreD (lv' := [(7, .int v101), (6, .int v92), (9, .int v72), (0, .ref 7), (1, .int a0), (5, .int l5), (8, .int l8)]) (by decide) rfl ?_
                              refine wa_iinc (v := (1)) (lv' := fun y102 => [(8, .int y102), (7, .int v101), (6, .int v92), (9, .int v72), (0, .ref 7), (1, .int a0), (5, .int l5)]) (by decide) rfl (by decide) (fun _ => rfl) (fun y102 hy102 => ?_)
                              have ty102 := i_addT hy102.symm
                              clear hy102
                              refine wa_goto o_X2_within_52 (by decide) ?_
                              refine wa_pick [4, 5, 6, 2, 1, 0] rfl ?_
                              exact ih67 _ (by ((try simp only [vp_in_iff, Int32.lt_iff_toInt_lt, Int32.le_iff_toInt_le, ← Int32.toInt_inj, Int32.reduceToInt, n_1, n_2, n_8, Int32.toNatClampNeg, Int64.lt_iff_toInt_lt, Int64.le_iff_toInt_le, ← Int64.toInt_inj, Int64.reduceToInt, Int32.toInt_toInt64, lg_cmp_ge, lg_cmp_le, lg_cmp_gt, lg_cmp_lt, lg_cmp_eq, Bool.false_eq_true, Bool.true_eq_false, reduceCtorEq, false_iff, true_iff, iff_true, iff_false, and_true, true_and, and_false, false_and, reduceIte, ite_true, ite_false, eq_self] at *)) <;> omega) _ _ _ trivial rfl
                            · refine wa_iconst (v := 2) (by decide) ?_
                              refine wa_goto o_X2_within_145 (by decide) ?_
                              refine wa_minI zs (allW_in (kT_6 _ (List.mem_of_getElem? (i := 38) rfl)) rfl) (Nat.le_of_ble_eq_true rfl) ?_
                              refine wa_top (fun v103 hv103 => ?_)
                              have tv103 := i_minI hv103
                              clear hv103
                              refine wa_istoreD (lv' := [(7, .int v103), (6, .int v92), (9, .int v72), (0, .ref 7), (1, .int a0), (5, .int l5), (8, .int l8)]) (by decide) rfl ?_
                              refine wa_iinc (v := (1)) (lv' := fun y104 => [(8, .int y104), (7, .int v103), (6, .int v92), (9, .int v72), (0, .ref 7), (1, .int a0), (5, .int l5)]) (by decide) rfl (by decide) (fun _ => rfl) (fun y104 hy104 => ?_)
                              have ty104 := i_addT hy104.symm
                              clear hy104
                              refine wa_goto o_X2_within_52 (by decide) ?_
                              refine wa_pick [4, 5, 6, 2, 1, 0] rfl ?_
                              exact ih67 _ (by ((try simp only [vp_in_iff, Int32.lt_iff_toInt_lt, Int32.le_iff_toInt_le, ← Int32.toInt_inj, Int32.reduceToInt, n_1, n_2, n_8, Int32.toNatClampNeg, Int64.lt_iff_toInt_lt, Int64.le_iff_toInt_le, ← Int64.toInt_inj, Int64.reduceToInt, Int32.toInt_toInt64, lg_cmp_ge, lg_cmp_le, lg_cmp_gt, lg_cmp_lt, lg_cmp_eq, Bool.false_eq_true, Bool.true_eq_false, reduceCtorEq, false_iff, true_iff, iff_true, iff_false, and_true, true_and, and_false, false_and, reduceIte, ite_true, ite_false, eq_self] at *)) <;> omega) _ _ _ trivial rfl
                          · refine wa_iconst (v := 1) (by decide) ?_
                            refine wa_goto o_X2_within_145 (by decide) ?_
                            refine wa_minI zs (allW_in (kT_6 _ (List.mem_of_getElem? (i := 38) rfl)) rfl) (Nat.le_of_ble_eq_true rfl) ?_
                            refine wa_top (fun v105 hv105 => ?_)
                            have tv105 := i_minI hv105
                            clear hv105
                            refine wa_istoreD (lv' := [(7, .int v105), (6, .int v92), (9, .int v72), (0, .ref 7), (1, .int a0), (5, .int l5), (8, .int l8)]) (by decide) rfl ?_
                            refine wa_iinc (v := (1)) (lv' := fun y106 => [(8, .int y106), (7, .int v105), (6, .int v92), (9, .int v72), (0, .ref 7), (1, .int a0), (5, .int l5)]) (by decide) rfl (by decide) (fun _ => rfl) (fun y106 hy106 => ?_)
                            have ty106 := i_addT hy106.symm
                            clear hy106
                            refine wa_goto o_X2_within_52 (by decide) ?_
                            refine wa_pick [4, 5, 6, 2, 1, 0] rfl ?_
                            exact ih67 _ (by ((try simp only [vp_in_iff, Int32.lt_iff_toInt_lt, Int32.le_iff_toInt_le, ← Int32.toInt_inj, Int32.reduceToInt, n_1, n_2, n_8, Int32.toNatClampNeg, Int64.lt_iff_toInt_lt, Int64.le_iff_toInt_le, ← Int64.toInt_inj, Int64.reduceToInt, Int32.toInt_toInt64, lg_cmp_ge, lg_cmp_le, lg_cmp_gt, lg_cmp_lt, lg_cmp_eq, Bool.false_eq_true, Bool.true_eq_false, reduceCtorEq, false_iff, true_iff, iff_true, iff_false, and_true, true_and, and_false, false_and, reduceIte, ite_true, ite_false, eq_self] at *)) <;> omega) _ _ _ trivial rfl
                        · refine wa_iconst (v := 0) (by decide) ?_
                          refine wa_goto o_X2_within_145 (by decide) ?_
                          refine wa_minI zs (allW_in (kT_6 _ (List.mem_of_getElem? (i := 38) rfl)) rfl) (Nat.le_of_ble_eq_true rfl) ?_
                          refine wa_top (fun v107 hv107 => ?_)
                          have tv107 := i_minI hv107
                          clear hv107
                          refine wa_istoreD (lv' := [(7, .int v107), (6, .int v92), (9, .int v72), (0, .ref 7), (1, .int a0), (5, .int l5), (8, .int l8)]) (by decide) rfl ?_
                          refine wa_iinc (v := (1)) (lv' := fun y108 => [(8, .int y108), (7, .int v107), (6, .int v92), (9, .int v72), (0, .ref 7), (1, .int a0), (5, .int l5)]) (by decide) rfl (by decide) (fun _ => rfl) (fun y108 hy108 => ?_)
                          have ty108 := i_addT hy108.symm
                          clear hy108
                          refine wa_goto o_X2_within_52 (by decide) ?_
                          refine wa_pick [4, 5, 6, 2, 1, 0] rfl ?_
                          exact ih67 _ (by ((try simp only [vp_in_iff, Int32.lt_iff_toInt_lt, Int32.le_iff_toInt_le, ← Int32.toInt_inj, Int32.reduceToInt, n_1, n_2, n_8, Int32.toNatClampNeg, Int64.lt_iff_toInt_lt, Int64.le_iff_toInt_le, ← Int64.toInt_inj, Int64.reduceToInt, Int32.toInt_toInt64, lg_cmp_ge, lg_cmp_le, lg_cmp_gt, lg_cmp_lt, lg_cmp_eq, Bool.false_eq_true, Bool.true_eq_false, reduceCtorEq, false_iff, true_iff, iff_true, iff_false, and_true, true_and, and_false, false_and, reduceIte, ite_true, ite_false, eq_self] at *)) <;> omega) _ _ _ trivial rfl
                · refine wa_iconst (v := 1) (by decide) ?_
                  refine wa_goto o_X2_within_94 (by decide) ?_
                  refine wa_iadd ?_
                  refine wa_top (fun v109 hv109 => ?_)
                  have tv109 := i_addT hv109
                  clear hv109
                  refine wa_istoreD (lv' := [(6, .int v109), (9, .int v72), (0, .ref 7), (1, .int a0), (5, .int l5), (7, .int l7), (8, .int l8)]) (by decide) rfl ?_
                  refine wa_iload rfl ?_
                  refine wa_if_ne o_X2_within_150 (by decide) (fun h110 => ?_) (fun h110 => ?_)
                  · refine wa_iinc (v := (1)) (lv' := fun y111 => [(8, .int y111), (6, .int v109), (9, .int v72), (0, .ref 7), (1, .int a0), (5, .int l5), (7, .int l7)]) (by decide) rfl (by decide) (fun _ => rfl) (fun y111 hy111 => ?_)
                    have ty111 := i_addT hy111.symm
                    clear hy111
                    refine wa_goto o_X2_within_52 (by decide) ?_
                    refine wa_pick [3, 4, 5, 1, 6, 0] rfl ?_
                    exact ih67 _ (by ((try simp only [vp_in_iff, Int32.lt_iff_toInt_lt, Int32.le_iff_toInt_le, ← Int32.toInt_inj, Int32.reduceToInt, n_1, n_2, n_8, Int32.toNatClampNeg, Int64.lt_iff_toInt_lt, Int64.le_iff_toInt_le, ← Int64.toInt_inj, Int64.reduceToInt, Int32.toInt_toInt64, lg_cmp_ge, lg_cmp_le, lg_cmp_gt, lg_cmp_lt, lg_cmp_eq, Bool.false_eq_true, Bool.true_eq_false, reduceCtorEq, false_iff, true_iff, iff_true, iff_false, and_true, true_and, and_false, false_and, reduceIte, ite_true, ite_false, eq_self] at *)) <;> omega) _ _ _ trivial rfl
                  · refine wa_iload rfl ?_
                    refine wa_iload rfl ?_
                    refine wa_bipush (v := 19) (by decide) ?_
                    refine wa_icmp_eq o_X2_within_118 (by decide) (fun h112 => ?_) (fun h112 => ?_)
                    · refine wa_iconst (v := 0) (by decide) ?_
                      refine wa_goto o_X2_within_145 (by decide) ?_
                      refine wa_minI zs (allW_in (kT_6 _ (List.mem_of_getElem? (i := 38) rfl)) rfl) (Nat.le_of_ble_eq_true rfl) ?_
                      refine wa_top (fun v113 hv113 => ?_)
                      have tv113 := i_minI hv113
                      clear hv113
                      refine wa_istoreD (lv' := [(7, .int v113), (6, .int v109), (9, .int v72), (0, .ref 7), (1, .int a0), (5, .int l5), (8, .int l8)]) (by decide) rfl ?_
                      refine wa_iinc (v := (1)) (lv' := fun y114 => [(8, .int y114), (7, .int v113), (6, .int v109), (9, .int v72), (0, .ref 7), (1, .int a0), (5, .int l5)]) (by decide) rfl (by decide) (fun _ => rfl) (fun y114 hy114 => ?_)
                      have ty114 := i_addT hy114.symm
                      clear hy114
                      refine wa_goto o_X2_within_52 (by decide) ?_
                      refine wa_pick [4, 5, 6, 2, 1, 0] rfl ?_
                      exact ih67 _ (by ((try simp only [vp_in_iff, Int32.lt_iff_toInt_lt, Int32.le_iff_toInt_le, ← Int32.toInt_inj, Int32.reduceToInt, n_1, n_2, n_8, Int32.toNatClampNeg, Int64.lt_iff_toInt_lt, Int64.le_iff_toInt_le, ← Int64.toInt_inj, Int64.reduceToInt, Int32.toInt_toInt64, lg_cmp_ge, lg_cmp_le, lg_cmp_gt, lg_cmp_lt, lg_cmp_eq, Bool.false_eq_true, Bool.true_eq_false, reduceCtorEq, false_iff, true_iff, iff_true, iff_false, and_true, true_and, and_false, false_and, reduceIte, ite_true, ite_false, eq_self] at *)) <;> omega) _ _ _ trivial rfl
                    · refine wa_iload rfl ?_
                      refine wa_bipush (v := 20) (by decide) ?_
                      refine wa_icmp_ne o_X2_within_122 (by decide) (fun h115 => ?_) (fun h115 => ?_)
                      · refine wa_iload rfl ?_
                        refine wa_bipush (v := 24) (by decide) ?_
                        refine wa_icmp_ne o_X2_within_133 (by decide) (fun h116 => ?_) (fun h116 => ?_)
                        · refine wa_iload rfl ?_
                          refine wa_bipush (v := 23) (by decide) ?_
                          refine wa_icmp_ne o_X2_within_144 (by decide) (fun h117 => ?_) (fun h117 => ?_)
                          · refine wa_iconst (v := 3) (by decide) ?_
                            refine wa_minI zs (allW_in (kT_6 _ (List.mem_of_getElem? (i := 38) rfl)) rfl) (Nat.le_of_ble_eq_true rfl) ?_
                            refine wa_top (fun v118 hv118 => ?_)
                            have tv118 := i_minI hv118
                            clear hv118
                            refine wa_istoreD (lv' := [(7, .int v118), (6, .int v109), (9, .int v72), (0, .ref 7), (1, .int a0), (5, .int l5), (8, .int l8)]) (by decide) rfl ?_
                            refine wa_iinc (v := (1)) (lv' := fun y119 => [(8, .int y119), (7, .int v118), (6, .int v109), (9, .int v72), (0, .ref 7), (1, .int a0), (5, .int l5)]) (by decide) rfl (by decide) (fun _ => rfl) (fun y119 hy119 => ?_)
                            have ty119 := i_addT hy119.symm
                            clear hy119
                            refine wa_goto o_X2_within_52 (by decide) ?_
                            refine wa_pick [4, 5, 6, 2, 1, 0] rfl ?_
                            exact ih67 _ (by ((try simp only [vp_in_iff, Int32.lt_iff_toInt_lt, Int32.le_iff_toInt_le, ← Int32.toInt_inj, Int32.reduceToInt, n_1, n_2, n_8, Int32.toNatClampNeg, Int64.lt_iff_toInt_lt, Int64.le_iff_toInt_le, ← Int64.toInt_inj, Int64.reduceToInt, Int32.toInt_toInt64, lg_cmp_ge, lg_cmp_le, lg_cmp_gt, lg_cmp_lt, lg_cmp_eq, Bool.false_eq_true, Bool.true_eq_false, reduceCtorEq, false_iff, true_iff, iff_true, iff_false, and_true, true_and, and_false, false_and, reduceIte, ite_true, ite_false, eq_self] at *)) <;> omega) _ _ _ trivial rfl
                          · refine wa_iconst (v := 2) (by decide) ?_
                            refine wa_goto o_X2_within_145 (by decide) ?_
                            refine wa_minI zs (allW_in (kT_6 _ (List.mem_of_getElem? (i := 38) rfl)) rfl) (Nat.le_of_ble_eq_true rfl) ?_
                            refine wa_top (fun v120 hv120 => ?_)
                            have tv120 := i_minI hv120
                            clear hv120
                            refine wa_istoreD (lv' := [(7, .int v120), (6, .int v109), (9, .int v72), (0, .ref 7), (1, .int a0), (5, .int l5), (8, .int l8)]) (by decide) rfl ?_
                            refine wa_iinc (v := (1)) (lv' := fun y121 => [(8, .int y121), (7, .int v120), (6, .int v109), (9, .int v72), (0, .ref 7), (1, .int a0), (5, .int l5)]) (by decide) rfl (by decide) (fun _ => rfl) (fun y121 hy121 => ?_)
                            have ty121 := i_addT hy121.symm
                            clear hy121
                            refine wa_goto o_X2_within_52 (by decide) ?_
                            refine wa_pick [4, 5, 6, 2, 1, 0] rfl ?_
                            exact ih67 _ (by ((try simp only [vp_in_iff, Int32.lt_iff_toInt_lt, Int32.le_iff_toInt_le, ← Int32.toInt_inj, Int32.reduceToInt, n_1, n_2, n_8, Int32.toNatClampNeg, Int64.lt_iff_toInt_lt, Int64.le_iff_toInt_le, ← Int64.toInt_inj, Int64.reduceToInt, Int32.toInt_toInt64, lg_cmp_ge, lg_cmp_le, lg_cmp_gt, lg_cmp_lt, lg_cmp_eq, Bool.false_eq_true, Bool.true_eq_false, reduceCtorEq, false_iff, true_iff, iff_true, iff_false, and_true, true_and, and_false, false_and, reduceIte, ite_true, ite_false, eq_self] at *)) <;> omega) _ _ _ trivial rfl
                        · refine wa_iconst (v := 1) (by decide) ?_
                          refine wa_goto o_X2_within_145 (by decide) ?_
                          refine wa_minI zs (allW_in (kT_6 _ (List.mem_of_getElem? (i := 38) rfl)) rfl) (Nat.le_of_ble_eq_true rfl) ?_
                          refine wa_top (fun v122 hv122 => ?_)
                          have tv122 := i_minI hv122
                          clear hv122
                          refine wa_istoreD (lv' := [(7, .int v122), (6, .int v109), (9, .int v72), (0, .ref 7), (1, .int a0), (5, .int l5), (8, .int l8)]) (by decide) rfl ?_
                          refine wa_iinc (v := (1)) (lv' := fun y123 => [(8, .int y123), (7, .int v122), (6, .int v109), (9, .int v72), (0, .ref 7), (1, .int a0), (5, .int l5)]) (by decide) rfl (by decide) (fun _ => rfl) (fun y123 hy123 => ?_)
                          have ty123 := i_addT hy123.symm
                          clear hy123
                          refine wa_goto o_X2_within_52 (by decide) ?_
                          refine wa_pick [4, 5, 6, 2, 1, 0] rfl ?_
                          exact ih67 _ (by ((try simp only [vp_in_iff, Int32.lt_iff_toInt_lt, Int32.le_iff_toInt_le, ← Int32.toInt_inj, Int32.reduceToInt, n_1, n_2, n_8, Int32.toNatClampNeg, Int64.lt_iff_toInt_lt, Int64.le_iff_toInt_le, ← Int64.toInt_inj, Int64.reduceToInt, Int32.toInt_toInt64, lg_cmp_ge, lg_cmp_le, lg_cmp_gt, lg_cmp_lt, lg_cmp_eq, Bool.false_eq_true, Bool.true_eq_false, reduceCtorEq, false_iff, true_iff, iff_true, iff_false, and_true, true_and, and_false, false_and, reduceIte, ite_true, ite_false, eq_self] at *)) <;> omega) _ _ _ trivial rfl
                      · refine wa_iconst (v := 0) (by decide) ?_
                        refine wa_goto o_X2_within_145 (by decide) ?_
                        refine wa_minI zs (allW_in (kT_6 _ (List.mem_of_getElem? (i := 38) rfl)) rfl) (Nat.le_of_ble_eq_true rfl) ?_
                        refine wa_top (fun v124 hv124 => ?_)
                        have tv124 := i_minI hv124
                        clear hv124
                        refine wa_istoreD (lv' := [(7, .int v124), (6, .int v109), (9, .int v72), (0, .ref 7), (1, .int a0), (5, .int l5), (8, .int l8)]) (by decide) rfl ?_
                        refine wa_iinc (v := (1)) (lv' := fun y125 => [(8, .int y125), (7, .int v124), (6, .int v109), (9, .int v72), (0, .ref 7), (1, .int a0), (5, .int l5)]) (by decide) rfl (by decide) (fun _ => rfl) (fun y125 hy125 => ?_)
                        have ty125 := i_addT hy125.symm
                        clear hy125
                        refine wa_goto o_X2_within_52 (by decide) ?_
                        refine wa_pick [4, 5, 6, 2, 1, 0] rfl ?_
                        exact ih67 _ (by ((try simp only [vp_in_iff, Int32.lt_iff_toInt_lt, Int32.le_iff_toInt_le, ← Int32.toInt_inj, Int32.reduceToInt, n_1, n_2, n_8, Int32.toNatClampNeg, Int64.lt_iff_toInt_lt, Int64.le_iff_toInt_le, ← Int64.toInt_inj, Int64.reduceToInt, Int32.toInt_toInt64, lg_cmp_ge, lg_cmp_le, lg_cmp_gt, lg_cmp_lt, lg_cmp_eq, Bool.false_eq_true, Bool.true_eq_false, reduceCtorEq, false_iff, true_iff, iff_true, iff_false, and_true, true_and, and_false, false_and, reduceIte, ite_true, ite_false, eq_self] at *)) <;> omega) _ _ _ trivial rfl
          exact hi68 _ _ _ _ trivial rfl
        · replace h66 := bI_t (b := bx65) (rfl) h66
          refine wa_iinc (v := (1)) (lv' := fun y126 => [(4, .int y126), (0, .ref 7), (1, .int a0), (5, .int l5), (6, .int l6)]) (by decide) rfl (by decide) (fun _ => rfl) (fun y126 hy126 => ?_)
          have ty126 := i_addT hy126.symm
          clear hy126
          refine wa_iinc (v := (-1)) (lv' := fun y127 => [(5, .int y127), (4, .int y126), (0, .ref 7), (1, .int a0), (6, .int l6)]) (by decide) rfl (by decide) (fun _ => rfl) (fun y127 hy127 => ?_)
          have ty127 := i_addT hy127.symm
          clear hy127
          refine wa_iinc (v := (1)) (lv' := fun y128 => [(6, .int y128), (5, .int y127), (4, .int y126), (0, .ref 7), (1, .int a0)]) (by decide) rfl (by decide) (fun _ => rfl) (fun y128 hy128 => ?_)
          have ty128 := i_addT hy128.symm
          clear hy128
          refine wa_goto o_X2_within_11 (by decide) ?_
          refine wa_pick [3, 4, 2, 1, 0] rfl ?_
          exact ih2 _ (by ((try simp only [vp_in_iff, Int32.lt_iff_toInt_lt, Int32.le_iff_toInt_le, ← Int32.toInt_inj, Int32.reduceToInt, n_1, n_2, n_8, Int32.toNatClampNeg, Int64.lt_iff_toInt_lt, Int64.le_iff_toInt_le, ← Int64.toInt_inj, Int64.reduceToInt, Int32.toInt_toInt64, lg_cmp_ge, lg_cmp_le, lg_cmp_gt, lg_cmp_lt, lg_cmp_eq, Bool.false_eq_true, Bool.true_eq_false, reduceCtorEq, false_iff, true_iff, iff_true, iff_false, and_true, true_and, and_false, false_and, reduceIte, ite_true, ite_false, eq_self] at *)) <;> omega) _ _ _ ⟨(by ((try simp only [vp_in_iff, Int32.lt_iff_toInt_lt, Int32.le_iff_toInt_le, ← Int32.toInt_inj, Int32.reduceToInt, n_1, n_2, n_8, Int32.toNatClampNeg, Int64.lt_iff_toInt_lt, Int64.le_iff_toInt_le, ← Int64.toInt_inj, Int64.reduceToInt, Int32.toInt_toInt64, lg_cmp_ge, lg_cmp_le, lg_cmp_gt, lg_cmp_lt, lg_cmp_eq, Bool.false_eq_true, Bool.true_eq_false, reduceCtorEq, false_iff, true_iff, iff_true, iff_false, and_true, true_and, and_false, false_and, reduceIte, ite_true, ite_false, eq_self] at *)) <;> omega), trivial⟩ rfl
  exact hi3 _ _ _ _ ⟨(by ((try simp only [vp_in_iff, Int32.lt_iff_toInt_lt, Int32.le_iff_toInt_le, ← Int32.toInt_inj, Int32.reduceToInt, n_1, n_2, n_8, Int32.toNatClampNeg, Int64.lt_iff_toInt_lt, Int64.le_iff_toInt_le, ← Int64.toInt_inj, Int64.reduceToInt, Int32.toInt_toInt64, lg_cmp_ge, lg_cmp_le, lg_cmp_gt, lg_cmp_lt, lg_cmp_eq, Bool.false_eq_true, Bool.true_eq_false, reduceCtorEq, false_iff, true_iff, iff_true, iff_false, and_true, true_and, and_false, false_and, reduceIte, ite_true, ite_false, eq_self] at *)) <;> omega), trivial⟩ rfl
set_option maxHeartbeats 4000000 in
theorem sp_X2_isNeeded (G : kG9) {d : Nat} (hd : 5 ≤ d) (σ : St) (a0 : Int32) (a1 : Int32) (a2 : Int32) : Ct G M_X2_isNeeded d [.ref 7, .int a0, .int a1, .int a2] σ (fun r σ' => ∃ x : Bool, r = some (.int (bI x)) ∧ σ = σ' ∧ True) := by
  refine wa_start (by decide) rfl (Nat.le_of_ble_eq_true rfl) (lv := [(0, .ref 7), (1, .int a0), (2, .int a1), (3, .int a2)]) rfl o_X2_isNeeded_0 rfl ?_
  have ua0 := Int32.toInt_lt a0
  have wa0 := Int32.le_toInt a0
  have ua1 := Int32.toInt_lt a1
  have wa1 := Int32.le_toInt a1
  have ua2 := Int32.toInt_lt a2
  have wa2 := Int32.le_toInt a2
  refine wa_iload_n (i := 2) rfl rfl ?_
  refine wa_if_le o_X2_isNeeded_18 (by decide) (fun h1 => ?_) (fun h1 => ?_)
  · refine wa_iconst (v := 0) (by decide) ?_
    refine wa_istoreD (lv' := [(4, .int 0), (0, .ref 7), (1, .int a0), (2, .int a1), (3, .int a2)]) (by decide) rfl ?_
    refine wa_aload_n (i := 0) rfl rfl ?_
    refine wa_iload_n (i := 1) rfl rfl ?_
    refine wa_iload_n (i := 3) rfl rfl ?_
    refine wa_iconst (v := 1) (by decide) ?_
    refine wa_iadd ?_
    refine wa_top (fun v2 hv2 => ?_)
    have tv2 := i_addT hv2
    clear hv2
    refine wa_Vi (d9 := d - 1) [.int _, .int _] [] (sp_X2_token G (d := d - 1) (by omega) σ _ _) (rfl) rfl rfl (zr (by omega)) mk_X2_token ly_7 ml_2_74 (Nat.le_of_ble_eq_true rfl) (fun x4 s3 hs3 => ?_)
    obtain ⟨zs3, -⟩ := pI hs3
    subst zs3
    refine wa_bipush (v := 63) (by decide) ?_
    refine wa_iand ?_
    refine wa_top (fun v5 hv5 => ?_)
    have tv5 := i_andT hv5
    clear hv5
    refine wa_istoreD (lv' := [(5, .int v5), (4, .int 0), (0, .ref 7), (1, .int a0), (2, .int a1), (3, .int a2)]) (by decide) rfl ?_
    refine wa_iload rfl ?_
    refine wa_bipush (v := 25) (by decide) ?_
    refine wa_icmp_ne o_X2_isNeeded_45 (by decide) (fun h6 => ?_) (fun h6 => ?_)
    · refine wa_iload rfl ?_
      refine wa_Si (d9 := d - 1) [.int _] [] (sp_X2_tightness G (d := d - 1) (by omega) σ _) (rfl) rfl rfl (zr (by omega)) mk_X2_tightness ml_2_97 (Nat.le_of_ble_eq_true rfl) (fun x8 s7 hs7 => ?_)
      obtain ⟨zs7, -⟩ := pI hs7
      subst zs7
      refine wa_iload rfl ?_
      refine wa_Si (d9 := d - 1) [.int _] [.int x8] (sp_X2_tightness G (d := d - 1) (by omega) σ _) (rfl) rfl rfl (zr (by omega)) mk_X2_tightness ml_2_97 (Nat.le_of_ble_eq_true rfl) (fun x10 s9 hs9 => ?_)
      obtain ⟨zs9, -⟩ := pI hs9
      subst zs9
      refine wa_maxI zs (allW_in (kT_6 _ (List.mem_of_getElem? (i := 39) rfl)) rfl) (Nat.le_of_ble_eq_true rfl) ?_
      refine wa_top (fun v11 hv11 => ?_)
      have tv11 := i_maxI hv11
      clear hv11
      refine wa_istoreD (lv' := [(6, .int v11), (5, .int v5), (4, .int 0), (0, .ref 7), (1, .int a0), (2, .int a1), (3, .int a2)]) (by decide) rfl ?_
      refine wa_aload_n (i := 0) rfl rfl ?_
      refine wa_iload_n (i := 1) rfl rfl ?_
      refine wa_iload_n (i := 2) rfl rfl ?_
      refine wa_iload_n (i := 3) rfl rfl ?_
      refine wa_Vi (d9 := d - 1) [.int _, .int _, .int _] [] (sp_X2_within G (d := d - 1) (by omega) σ _ _ _) (rfl) rfl rfl (zr (by omega)) mk_X2_within ly_7 ml_2_101 (Nat.le_of_ble_eq_true rfl) (fun x13 s12 hs12 => ?_)
      obtain ⟨zs12, -⟩ := pI hs12
      subst zs12
      refine wa_iload rfl ?_
      refine wa_icmp_ge o_X2_isNeeded_76 (by decide) (fun h14 => ?_) (fun h14 => ?_)
      · refine wa_iconst (v := 0) (by decide) ?_
        refine wa_zreturn false (rfl) rfl rfl ?_
        exact ⟨_, rfl, rfl, trivial⟩
      · have mh14 := nle_mx h14
        refine wa_iconst (v := 1) (by decide) ?_
        refine wa_goto o_X2_isNeeded_77 (by decide) ?_
        refine wa_zreturn true (rfl) rfl rfl ?_
        exact ⟨_, rfl, rfl, trivial⟩
    · refine wa_iconst (v := 3) (by decide) ?_
      refine wa_goto o_X2_isNeeded_50 (by decide) ?_
      refine wa_iload rfl ?_
      refine wa_Si (d9 := d - 1) [.int _] [.int 3] (sp_X2_tightness G (d := d - 1) (by omega) σ _) (rfl) rfl rfl (zr (by omega)) mk_X2_tightness ml_2_97 (Nat.le_of_ble_eq_true rfl) (fun x16 s15 hs15 => ?_)
      obtain ⟨zs15, -⟩ := pI hs15
      subst zs15
      refine wa_maxI zs (allW_in (kT_6 _ (List.mem_of_getElem? (i := 39) rfl)) rfl) (Nat.le_of_ble_eq_true rfl) ?_
      refine wa_top (fun v17 hv17 => ?_)
      have tv17 := i_maxI hv17
      clear hv17
      refine wa_istoreD (lv' := [(6, .int v17), (5, .int v5), (4, .int 0), (0, .ref 7), (1, .int a0), (2, .int a1), (3, .int a2)]) (by decide) rfl ?_
      refine wa_aload_n (i := 0) rfl rfl ?_
      refine wa_iload_n (i := 1) rfl rfl ?_
      refine wa_iload_n (i := 2) rfl rfl ?_
      refine wa_iload_n (i := 3) rfl rfl ?_
      refine wa_Vi (d9 := d - 1) [.int _, .int _, .int _] [] (sp_X2_within G (d := d - 1) (by omega) σ _ _ _) (rfl) rfl rfl (zr (by omega)) mk_X2_within ly_7 ml_2_101 (Nat.le_of_ble_eq_true rfl) (fun x19 s18 hs18 => ?_)
      obtain ⟨zs18, -⟩ := pI hs18
      subst zs18
      refine wa_iload rfl ?_
      refine wa_icmp_ge o_X2_isNeeded_76 (by decide) (fun h20 => ?_) (fun h20 => ?_)
      · refine wa_iconst (v := 0) (by decide) ?_
        refine wa_zreturn false (rfl) rfl rfl ?_
        exact ⟨_, rfl, rfl, trivial⟩
      · have mh20 := nle_mx h20
        refine wa_iconst (v := 1) (by decide) ?_
        refine wa_goto o_X2_isNeeded_77 (by decide) ?_
        refine wa_zreturn true (rfl) rfl rfl ?_
        exact ⟨_, rfl, rfl, trivial⟩
  · refine wa_aload_n (i := 0) rfl rfl ?_
    refine wa_iload_n (i := 1) rfl rfl ?_
    refine wa_iload_n (i := 2) rfl rfl ?_
    refine wa_iconst (v := 1) (by decide) ?_
    refine wa_isub ?_
    refine wa_top (fun v21 hv21 => ?_)
    have tv21 := i_subT hv21
    clear hv21
    refine wa_Vi (d9 := d - 1) [.int _, .int _] [] (sp_X2_token G (d := d - 1) (by omega) σ _ _) (rfl) rfl rfl (zr (by omega)) mk_X2_token ly_7 ml_2_74 (Nat.le_of_ble_eq_true rfl) (fun x23 s22 hs22 => ?_)
    obtain ⟨zs22, -⟩ := pI hs22
    subst zs22
    refine wa_bipush (v := 63) (by decide) ?_
    refine wa_iand ?_
    refine wa_top (fun v24 hv24 => ?_)
    have tv24 := i_andT hv24
    clear hv24
    refine wa_goto o_X2_isNeeded_19 (by decide) ?_
    refine wa_istoreD (lv' := [(4, .int v24), (0, .ref 7), (1, .int a0), (2, .int a1), (3, .int a2)]) (by decide) rfl ?_
    refine wa_aload_n (i := 0) rfl rfl ?_
    refine wa_iload_n (i := 1) rfl rfl ?_
    refine wa_iload_n (i := 3) rfl rfl ?_
    refine wa_iconst (v := 1) (by decide) ?_
    refine wa_iadd ?_
    refine wa_top (fun v25 hv25 => ?_)
    have tv25 := i_addT hv25
    clear hv25
    refine wa_Vi (d9 := d - 1) [.int _, .int _] [] (sp_X2_token G (d := d - 1) (by omega) σ _ _) (rfl) rfl rfl (zr (by omega)) mk_X2_token ly_7 ml_2_74 (Nat.le_of_ble_eq_true rfl) (fun x27 s26 hs26 => ?_)
    obtain ⟨zs26, -⟩ := pI hs26
    subst zs26
    refine wa_bipush (v := 63) (by decide) ?_
    refine wa_iand ?_
    refine wa_top (fun v28 hv28 => ?_)
    have tv28 := i_andT hv28
    clear hv28
    refine wa_istoreD (lv' := [(5, .int v28), (4, .int v24), (0, .ref 7), (1, .int a0), (2, .int a1), (3, .int a2)]) (by decide) rfl ?_
    refine wa_iload rfl ?_
    refine wa_bipush (v := 25) (by decide) ?_
    refine wa_icmp_ne o_X2_isNeeded_45 (by decide) (fun h29 => ?_) (fun h29 => ?_)
    · refine wa_iload rfl ?_
      refine wa_Si (d9 := d - 1) [.int _] [] (sp_X2_tightness G (d := d - 1) (by omega) σ _) (rfl) rfl rfl (zr (by omega)) mk_X2_tightness ml_2_97 (Nat.le_of_ble_eq_true rfl) (fun x31 s30 hs30 => ?_)
      obtain ⟨zs30, -⟩ := pI hs30
      subst zs30
      refine wa_iload rfl ?_
      refine wa_Si (d9 := d - 1) [.int _] [.int x31] (sp_X2_tightness G (d := d - 1) (by omega) σ _) (rfl) rfl rfl (zr (by omega)) mk_X2_tightness ml_2_97 (Nat.le_of_ble_eq_true rfl) (fun x33 s32 hs32 => ?_)
      obtain ⟨zs32, -⟩ := pI hs32
      subst zs32
      refine wa_maxI zs (allW_in (kT_6 _ (List.mem_of_getElem? (i := 39) rfl)) rfl) (Nat.le_of_ble_eq_true rfl) ?_
      refine wa_top (fun v34 hv34 => ?_)
      have tv34 := i_maxI hv34
      clear hv34
      refine wa_istoreD (lv' := [(6, .int v34), (5, .int v28), (4, .int v24), (0, .ref 7), (1, .int a0), (2, .int a1), (3, .int a2)]) (by decide) rfl ?_
      refine wa_aload_n (i := 0) rfl rfl ?_
      refine wa_iload_n (i := 1) rfl rfl ?_
      refine wa_iload_n (i := 2) rfl rfl ?_
      refine wa_iload_n (i := 3) rfl rfl ?_
      refine wa_Vi (d9 := d - 1) [.int _, .int _, .int _] [] (sp_X2_within G (d := d - 1) (by omega) σ _ _ _) (rfl) rfl rfl (zr (by omega)) mk_X2_within ly_7 ml_2_101 (Nat.le_of_ble_eq_true rfl) (fun x36 s35 hs35 => ?_)
      obtain ⟨zs35, -⟩ := pI hs35
      subst zs35
      refine wa_iload rfl ?_
      refine wa_icmp_ge o_X2_isNeeded_76 (by decide) (fun h37 => ?_) (fun h37 => ?_)
      · refine wa_iconst (v := 0) (by decide) ?_
        refine wa_zreturn false (rfl) rfl rfl ?_
        exact ⟨_, rfl, rfl, trivial⟩
      · have mh37 := nle_mx h37
        refine wa_iconst (v := 1) (by decide) ?_
        refine wa_goto o_X2_isNeeded_77 (by decide) ?_
        refine wa_zreturn true (rfl) rfl rfl ?_
        exact ⟨_, rfl, rfl, trivial⟩
    · refine wa_iconst (v := 3) (by decide) ?_
      refine wa_goto o_X2_isNeeded_50 (by decide) ?_
      refine wa_iload rfl ?_
      refine wa_Si (d9 := d - 1) [.int _] [.int 3] (sp_X2_tightness G (d := d - 1) (by omega) σ _) (rfl) rfl rfl (zr (by omega)) mk_X2_tightness ml_2_97 (Nat.le_of_ble_eq_true rfl) (fun x39 s38 hs38 => ?_)
      obtain ⟨zs38, -⟩ := pI hs38
      subst zs38
      refine wa_maxI zs (allW_in (kT_6 _ (List.mem_of_getElem? (i := 39) rfl)) rfl) (Nat.le_of_ble_eq_true rfl) ?_
      refine wa_top (fun v40 hv40 => ?_)
      have tv40 := i_maxI hv40
      clear hv40
      refine wa_istoreD (lv' := [(6, .int v40), (5, .int v28), (4, .int v24), (0, .ref 7), (1, .int a0), (2, .int a1), (3, .int a2)]) (by decide) rfl ?_
      refine wa_aload_n (i := 0) rfl rfl ?_
      refine wa_iload_n (i := 1) rfl rfl ?_
      refine wa_iload_n (i := 2) rfl rfl ?_
      refine wa_iload_n (i := 3) rfl rfl ?_
      refine wa_Vi (d9 := d - 1) [.int _, .int _, .int _] [] (sp_X2_within G (d := d - 1) (by omega) σ _ _ _) (rfl) rfl rfl (zr (by omega)) mk_X2_within ly_7 ml_2_101 (Nat.le_of_ble_eq_true rfl) (fun x42 s41 hs41 => ?_)
      obtain ⟨zs41, -⟩ := pI hs41
      subst zs41
      refine wa_iload rfl ?_
      refine wa_icmp_ge o_X2_isNeeded_76 (by decide) (fun h43 => ?_) (fun h43 => ?_)
      · refine wa_iconst (v := 0) (by decide) ?_
        refine wa_zreturn false (rfl) rfl rfl ?_
        exact ⟨_, rfl, rfl, trivial⟩
      · have mh43 := nle_mx h43
        refine wa_iconst (v := 1) (by decide) ?_
        refine wa_goto o_X2_isNeeded_77 (by decide) ?_
        refine wa_zreturn true (rfl) rfl rfl ?_
        exact ⟨_, rfl, rfl, trivial⟩
set_option maxHeartbeats 4000000 in
theorem sp_X2_show (G : kG9) {d : Nat} (hd : 6 ≤ d) (σ : St) (a0 : Int32) : Ct G M_X2_show d [.ref 7, .int a0, .ref 18] σ (fun r σ' => ∃ x : Int32, r = some (.int x) ∧ Sm 7 18 σ σ' ∧ True) := by
  refine wa_start (by decide) rfl (Nat.le_of_ble_eq_true rfl) (lv := [(0, .ref 7), (1, .int a0), (2, .ref 18)]) rfl o_X2_show_0 rfl ?_
  have ua0 := Int32.toInt_lt a0
  have wa0 := Int32.le_toInt a0
  refine wa_aload_n (i := 0) rfl rfl ?_
  refine wa_iconst (v := 0) (by decide) ?_
  refine wa_puti ck_2 fl_2_71 ly_7 (fun s1 hs1 => ?_)
  have Fs1 : Sm 7 18 σ s1 := by rw [hs1]; exact Sm.si (Sm.rf 7 18 σ) _ _ (by decide) (by decide)
  refine wa_aload_n (i := 0) rfl rfl ?_
  refine wa_iload_n (i := 1) rfl rfl ?_
  refine wa_iconst (v := 0) (by decide) ?_
  refine wa_Vi (d9 := d - 1) [.int _, .int _] [] (sp_X2_fact G (d := d - 1) (by omega) s1 _ _) (rfl) rfl rfl (zr (by omega)) mk_X2_fact ly_7 ml_2_67 (Nat.le_of_ble_eq_true rfl) (fun x3 s2 hs2 => ?_)
  obtain ⟨zs2, -⟩ := pI hs2
  subst zs2
  refine wa_istore_nD (lv' := [(3, .int x3), (0, .ref 7), (1, .int a0), (2, .ref 18)]) (i := 3) rfl (by decide) rfl ?_
  refine wa_iconst (v := 0) (by decide) ?_
  refine wa_istoreD (lv' := [(4, .int 0), (3, .int x3), (0, .ref 7), (1, .int a0), (2, .ref 18)]) (by decide) rfl ?_
  refine wa_pick [2, 3, 4, 1, 0] rfl ?_
  have hi6 : ∀ (n9_15 : Nat) (l4 : Int32) (s4 : St), ((Sm 7 18 σ s4) ∧ (0 ≤ l4.toInt) ∧ (True)) → (2147483647 - l4.toInt).toNat = n9_15 → WA G M_X2_show (ZM G M_X2_show d (fun r σ' => ∃ x : Int32, r = some (.int x) ∧ Sm 7 18 σ σ' ∧ True)) B_X2_show_15 [(0, .ref 7), (1, .int a0), (2, .ref 18), (3, .int x3), (4, .int l4)] [] s4 := by
    intro n9_15
    induction n9_15 using Nat.strongRecOn with
    | _ n9_15 ih5 =>
      intro l4 s4 i9 m9_15
      obtain ⟨Fs4, jhi6_0, -⟩ := i9
      have ul4 := Int32.toInt_lt l4
      have wl4 := Int32.le_toInt l4
      refine wa_iload rfl ?_
      refine wa_iload_n (i := 3) rfl rfl ?_
      refine wa_icmp_ge o_X2_show_106 (by decide) (fun h7 => ?_) (fun h7 => ?_)
      · refine wa_aload_n (i := 0) rfl rfl ?_
        refine wa_geti ck_2 fl_2_71 ly_7 ?_
        refine wa_ireturn rfl rfl ?_
        exact ⟨_, rfl, Fs4, trivial⟩
      · have mh7 := nle_mx h7
        refine wa_aload_n (i := 0) rfl rfl ?_
        refine wa_iload_n (i := 1) rfl rfl ?_
        refine wa_iload rfl ?_
        refine wa_Vi (d9 := d - 1) [.int _, .int _] [] (sp_X2_token G (d := d - 1) (by omega) s4 _ _) (rfl) rfl rfl (zr (by omega)) mk_X2_token ly_7 ml_2_74 (Nat.le_of_ble_eq_true rfl) (fun x9 s8 hs8 => ?_)
        obtain ⟨zs8, -⟩ := pI hs8
        subst zs8
        refine wa_bipush (v := 63) (by decide) ?_
        refine wa_iand ?_
        refine wa_top (fun v10 hv10 => ?_)
        have tv10 := i_andT hv10
        clear hv10
        refine wa_istoreD (lv' := [(5, .int v10), (0, .ref 7), (1, .int a0), (2, .ref 18), (3, .int x3), (4, .int l4)]) (by decide) rfl ?_
        refine wa_iload rfl ?_
        refine wa_iconst (v := 4) (by decide) ?_
        refine wa_icmp_eq o_X2_show_45 (by decide) (fun h11 => ?_) (fun h11 => ?_)
        · refine wa_aload_n (i := 0) rfl rfl ?_
          refine wa_iload_n (i := 1) rfl rfl ?_
          refine wa_iload rfl ?_
          refine wa_iload rfl ?_
          refine wa_Vi (d9 := d - 1) [.int _, .int _, .int _] [] (sp_X2_partnerOf G (d := d - 1) (by omega) s4 _ _ _) (rfl) rfl rfl (zr (by omega)) mk_X2_partnerOf ly_7 ml_2_77 (Nat.le_of_ble_eq_true rfl) (fun x13 s12 hs12 => ?_)
          obtain ⟨zs12, -⟩ := pI hs12
          subst zs12
          refine wa_goto o_X2_show_58 (by decide) ?_
          refine wa_istoreD (lv' := [(6, .int x13), (5, .int v10), (0, .ref 7), (1, .int a0), (2, .ref 18), (3, .int x3), (4, .int l4)]) (by decide) rfl ?_
          refine wa_iload rfl ?_
          refine wa_iconst (v := (-1)) (by decide) ?_
          refine wa_icmp_eq o_X2_show_88 (by decide) (fun h14 => ?_) (fun h14 => ?_)
          · refine wa_aload_n (i := 0) rfl rfl ?_
            refine wa_aload_n (i := 0) rfl rfl ?_
            refine wa_iload_n (i := 1) rfl rfl ?_
            refine wa_iload rfl ?_
            refine wa_Vi (d9 := d - 1) [.int _, .int _] [.ref 7] (sp_X2_token G (d := d - 1) (by omega) s4 _ _) (rfl) rfl rfl (zr (by omega)) mk_X2_token ly_7 ml_2_74 (Nat.le_of_ble_eq_true rfl) (fun x16 s15 hs15 => ?_)
            obtain ⟨zs15, -⟩ := pI hs15
            subst zs15
            refine wa_aload_n (i := 2) rfl rfl ?_
            refine wa_Vv (d9 := d - 1) [.int _, .ref 18] [] (sp_X2_showToken G (d := d - 1) (by omega) s4 _) (rfl) rfl rfl (zr (by omega)) mk_X2_showToken ly_7 ml_2_93 (Nat.le_of_ble_eq_true rfl) (fun s17 hs17 => ?_)
            obtain ⟨fs17, -⟩ := hs17
            have Fs17 := Sm.tr Fs4 (Sm.wd fs17 (lo' := 7) (hi' := 18) (by decide) (by decide))
            refine wa_iinc (v := (1)) (lv' := fun y19 => [(4, .int y19), (6, .int x13), (5, .int v10), (0, .ref 7), (1, .int a0), (2, .ref 18), (3, .int x3)]) (by decide) rfl (by decide) (fun _ => rfl) (fun y19 hy19 => ?_)
            have ty19 := i_addT hy19.symm
            clear hy19
            refine wa_goto o_X2_show_15 (by decide) ?_
            refine wa_pick [3, 4, 5, 6, 0] rfl ?_
            exact ih5 _ (by ((try simp only [vp_in_iff, Int32.lt_iff_toInt_lt, Int32.le_iff_toInt_le, ← Int32.toInt_inj, Int32.reduceToInt, n_1, n_2, n_8, Int32.toNatClampNeg, Int64.lt_iff_toInt_lt, Int64.le_iff_toInt_le, ← Int64.toInt_inj, Int64.reduceToInt, Int32.toInt_toInt64, lg_cmp_ge, lg_cmp_le, lg_cmp_gt, lg_cmp_lt, lg_cmp_eq, Bool.false_eq_true, Bool.true_eq_false, reduceCtorEq, false_iff, true_iff, iff_true, iff_false, and_true, true_and, and_false, false_and, reduceIte, ite_true, ite_false, eq_self] at *)) <;> omega) _ _ ⟨Fs17, (by ((try simp only [vp_in_iff, Int32.lt_iff_toInt_lt, Int32.le_iff_toInt_le, ← Int32.toInt_inj, Int32.reduceToInt, n_1, n_2, n_8, Int32.toNatClampNeg, Int64.lt_iff_toInt_lt, Int64.le_iff_toInt_le, ← Int64.toInt_inj, Int64.reduceToInt, Int32.toInt_toInt64, lg_cmp_ge, lg_cmp_le, lg_cmp_gt, lg_cmp_lt, lg_cmp_eq, Bool.false_eq_true, Bool.true_eq_false, reduceCtorEq, false_iff, true_iff, iff_true, iff_false, and_true, true_and, and_false, false_and, reduceIte, ite_true, ite_false, eq_self] at *)) <;> omega), trivial⟩ rfl
          · refine wa_aload_n (i := 0) rfl rfl ?_
            refine wa_iload_n (i := 1) rfl rfl ?_
            refine wa_iload rfl ?_
            refine wa_iload rfl ?_
            refine wa_minI zs (allW_in (kT_6 _ (List.mem_of_getElem? (i := 38) rfl)) rfl) (Nat.le_of_ble_eq_true rfl) ?_
            refine wa_top (fun v20 hv20 => ?_)
            have tv20 := i_minI hv20
            clear hv20
            refine wa_iload rfl ?_
            refine wa_iload rfl ?_
            refine wa_maxI zs (allW_in (kT_6 _ (List.mem_of_getElem? (i := 39) rfl)) rfl) (Nat.le_of_ble_eq_true rfl) ?_
            refine wa_top (fun v21 hv21 => ?_)
            have tv21 := i_maxI hv21
            clear hv21
            refine wa_Vi (d9 := d - 1) [.int _, .int _, .int _] [] (sp_X2_isNeeded G (d := d - 1) (by omega) s4 _ _ _) (rfl) rfl rfl (zr (by omega)) mk_X2_isNeeded ly_7 ml_2_89 (Nat.le_of_ble_eq_true rfl) (fun x23 s22 hs22 => ?_)
            obtain ⟨bx23, ex23, zs22, -⟩ := pB hs22
            subst ex23
            subst zs22
            refine wa_if_eq o_X2_show_100 (by decide) (fun h24 => ?_) (fun h24 => ?_)
            · replace h24 := bI_f (b := bx23) (rfl) h24
              refine wa_iinc (v := (1)) (lv' := fun y25 => [(4, .int y25), (6, .int x13), (5, .int v10), (0, .ref 7), (1, .int a0), (2, .ref 18), (3, .int x3)]) (by decide) rfl (by decide) (fun _ => rfl) (fun y25 hy25 => ?_)
              have ty25 := i_addT hy25.symm
              clear hy25
              refine wa_goto o_X2_show_15 (by decide) ?_
              refine wa_pick [3, 4, 5, 6, 0] rfl ?_
              exact ih5 _ (by ((try simp only [vp_in_iff, Int32.lt_iff_toInt_lt, Int32.le_iff_toInt_le, ← Int32.toInt_inj, Int32.reduceToInt, n_1, n_2, n_8, Int32.toNatClampNeg, Int64.lt_iff_toInt_lt, Int64.le_iff_toInt_le, ← Int64.toInt_inj, Int64.reduceToInt, Int32.toInt_toInt64, lg_cmp_ge, lg_cmp_le, lg_cmp_gt, lg_cmp_lt, lg_cmp_eq, Bool.false_eq_true, Bool.true_eq_false, reduceCtorEq, false_iff, true_iff, iff_true, iff_false, and_true, true_and, and_false, false_and, reduceIte, ite_true, ite_false, eq_self] at *)) <;> omega) _ _ ⟨Fs4, (by ((try simp only [vp_in_iff, Int32.lt_iff_toInt_lt, Int32.le_iff_toInt_le, ← Int32.toInt_inj, Int32.reduceToInt, n_1, n_2, n_8, Int32.toNatClampNeg, Int64.lt_iff_toInt_lt, Int64.le_iff_toInt_le, ← Int64.toInt_inj, Int64.reduceToInt, Int32.toInt_toInt64, lg_cmp_ge, lg_cmp_le, lg_cmp_gt, lg_cmp_lt, lg_cmp_eq, Bool.false_eq_true, Bool.true_eq_false, reduceCtorEq, false_iff, true_iff, iff_true, iff_false, and_true, true_and, and_false, false_and, reduceIte, ite_true, ite_false, eq_self] at *)) <;> omega), trivial⟩ rfl
            · replace h24 := bI_t (b := bx23) (rfl) h24
              refine wa_aload_n (i := 0) rfl rfl ?_
              refine wa_aload_n (i := 0) rfl rfl ?_
              refine wa_iload_n (i := 1) rfl rfl ?_
              refine wa_iload rfl ?_
              refine wa_Vi (d9 := d - 1) [.int _, .int _] [.ref 7] (sp_X2_token G (d := d - 1) (by omega) s4 _ _) (rfl) rfl rfl (zr (by omega)) mk_X2_token ly_7 ml_2_74 (Nat.le_of_ble_eq_true rfl) (fun x27 s26 hs26 => ?_)
              obtain ⟨zs26, -⟩ := pI hs26
              subst zs26
              refine wa_aload_n (i := 2) rfl rfl ?_
              refine wa_Vv (d9 := d - 1) [.int _, .ref 18] [] (sp_X2_showToken G (d := d - 1) (by omega) s4 _) (rfl) rfl rfl (zr (by omega)) mk_X2_showToken ly_7 ml_2_93 (Nat.le_of_ble_eq_true rfl) (fun s28 hs28 => ?_)
              obtain ⟨fs28, -⟩ := hs28
              have Fs28 := Sm.tr Fs4 (Sm.wd fs28 (lo' := 7) (hi' := 18) (by decide) (by decide))
              refine wa_iinc (v := (1)) (lv' := fun y30 => [(4, .int y30), (6, .int x13), (5, .int v10), (0, .ref 7), (1, .int a0), (2, .ref 18), (3, .int x3)]) (by decide) rfl (by decide) (fun _ => rfl) (fun y30 hy30 => ?_)
              have ty30 := i_addT hy30.symm
              clear hy30
              refine wa_goto o_X2_show_15 (by decide) ?_
              refine wa_pick [3, 4, 5, 6, 0] rfl ?_
              exact ih5 _ (by ((try simp only [vp_in_iff, Int32.lt_iff_toInt_lt, Int32.le_iff_toInt_le, ← Int32.toInt_inj, Int32.reduceToInt, n_1, n_2, n_8, Int32.toNatClampNeg, Int64.lt_iff_toInt_lt, Int64.le_iff_toInt_le, ← Int64.toInt_inj, Int64.reduceToInt, Int32.toInt_toInt64, lg_cmp_ge, lg_cmp_le, lg_cmp_gt, lg_cmp_lt, lg_cmp_eq, Bool.false_eq_true, Bool.true_eq_false, reduceCtorEq, false_iff, true_iff, iff_true, iff_false, and_true, true_and, and_false, false_and, reduceIte, ite_true, ite_false, eq_self] at *)) <;> omega) _ _ ⟨Fs28, (by ((try simp only [vp_in_iff, Int32.lt_iff_toInt_lt, Int32.le_iff_toInt_le, ← Int32.toInt_inj, Int32.reduceToInt, n_1, n_2, n_8, Int32.toNatClampNeg, Int64.lt_iff_toInt_lt, Int64.le_iff_toInt_le, ← Int64.toInt_inj, Int64.reduceToInt, Int32.toInt_toInt64, lg_cmp_ge, lg_cmp_le, lg_cmp_gt, lg_cmp_lt, lg_cmp_eq, Bool.false_eq_true, Bool.true_eq_false, reduceCtorEq, false_iff, true_iff, iff_true, iff_false, and_true, true_and, and_false, false_and, reduceIte, ite_true, ite_false, eq_self] at *)) <;> omega), trivial⟩ rfl
        · refine wa_iload rfl ?_
          refine wa_iconst (v := 5) (by decide) ?_
          refine wa_icmp_ne o_X2_show_57 (by decide) (fun h31 => ?_) (fun h31 => ?_)
          · refine wa_iconst (v := (-1)) (by decide) ?_
            refine wa_istoreD (lv' := [(6, .int (-1)), (5, .int v10), (0, .ref 7), (1, .int a0), (2, .ref 18), (3, .int x3), (4, .int l4)]) (by decide) rfl ?_
            refine wa_iload rfl ?_
            refine wa_iconst (v := (-1)) (by decide) ?_
            refine wa_icmp_eq o_X2_show_88 (by decide) (fun h32 => ?_) (fun h32 => ?_)
            · refine wa_aload_n (i := 0) rfl rfl ?_
              refine wa_aload_n (i := 0) rfl rfl ?_
              refine wa_iload_n (i := 1) rfl rfl ?_
              refine wa_iload rfl ?_
              refine wa_Vi (d9 := d - 1) [.int _, .int _] [.ref 7] (sp_X2_token G (d := d - 1) (by omega) s4 _ _) (rfl) rfl rfl (zr (by omega)) mk_X2_token ly_7 ml_2_74 (Nat.le_of_ble_eq_true rfl) (fun x34 s33 hs33 => ?_)
              obtain ⟨zs33, -⟩ := pI hs33
              subst zs33
              refine wa_aload_n (i := 2) rfl rfl ?_
              refine wa_Vv (d9 := d - 1) [.int _, .ref 18] [] (sp_X2_showToken G (d := d - 1) (by omega) s4 _) (rfl) rfl rfl (zr (by omega)) mk_X2_showToken ly_7 ml_2_93 (Nat.le_of_ble_eq_true rfl) (fun s35 hs35 => ?_)
              obtain ⟨fs35, -⟩ := hs35
              have Fs35 := Sm.tr Fs4 (Sm.wd fs35 (lo' := 7) (hi' := 18) (by decide) (by decide))
              refine wa_iinc (v := (1)) (lv' := fun y37 => [(4, .int y37), (6, .int (-1)), (5, .int v10), (0, .ref 7), (1, .int a0), (2, .ref 18), (3, .int x3)]) (by decide) rfl (by decide) (fun _ => rfl) (fun y37 hy37 => ?_)
              have ty37 := i_addT hy37.symm
              clear hy37
              refine wa_goto o_X2_show_15 (by decide) ?_
              refine wa_pick [3, 4, 5, 6, 0] rfl ?_
              exact ih5 _ (by ((try simp only [vp_in_iff, Int32.lt_iff_toInt_lt, Int32.le_iff_toInt_le, ← Int32.toInt_inj, Int32.reduceToInt, n_1, n_2, n_8, Int32.toNatClampNeg, Int64.lt_iff_toInt_lt, Int64.le_iff_toInt_le, ← Int64.toInt_inj, Int64.reduceToInt, Int32.toInt_toInt64, lg_cmp_ge, lg_cmp_le, lg_cmp_gt, lg_cmp_lt, lg_cmp_eq, Bool.false_eq_true, Bool.true_eq_false, reduceCtorEq, false_iff, true_iff, iff_true, iff_false, and_true, true_and, and_false, false_and, reduceIte, ite_true, ite_false, eq_self] at *)) <;> omega) _ _ ⟨Fs35, (by ((try simp only [vp_in_iff, Int32.lt_iff_toInt_lt, Int32.le_iff_toInt_le, ← Int32.toInt_inj, Int32.reduceToInt, n_1, n_2, n_8, Int32.toNatClampNeg, Int64.lt_iff_toInt_lt, Int64.le_iff_toInt_le, ← Int64.toInt_inj, Int64.reduceToInt, Int32.toInt_toInt64, lg_cmp_ge, lg_cmp_le, lg_cmp_gt, lg_cmp_lt, lg_cmp_eq, Bool.false_eq_true, Bool.true_eq_false, reduceCtorEq, false_iff, true_iff, iff_true, iff_false, and_true, true_and, and_false, false_and, reduceIte, ite_true, ite_false, eq_self] at *)) <;> omega), trivial⟩ rfl
            · refine wa_aload_n (i := 0) rfl rfl ?_
              refine wa_iload_n (i := 1) rfl rfl ?_
              refine wa_iload rfl ?_
              refine wa_iload rfl ?_
              refine wa_minI zs (allW_in (kT_6 _ (List.mem_of_getElem? (i := 38) rfl)) rfl) (Nat.le_of_ble_eq_true rfl) ?_
              refine wa_top (fun v38 hv38 => ?_)
              have tv38 := i_minI hv38
              clear hv38
              refine wa_iload rfl ?_
              refine wa_iload rfl ?_
              refine wa_maxI zs (allW_in (kT_6 _ (List.mem_of_getElem? (i := 39) rfl)) rfl) (Nat.le_of_ble_eq_true rfl) ?_
              refine wa_top (fun v39 hv39 => ?_)
              have tv39 := i_maxI hv39
              clear hv39
              refine wa_Vi (d9 := d - 1) [.int _, .int _, .int _] [] (sp_X2_isNeeded G (d := d - 1) (by omega) s4 _ _ _) (rfl) rfl rfl (zr (by omega)) mk_X2_isNeeded ly_7 ml_2_89 (Nat.le_of_ble_eq_true rfl) (fun x41 s40 hs40 => ?_)
              obtain ⟨bx41, ex41, zs40, -⟩ := pB hs40
              subst ex41
              subst zs40
              refine wa_if_eq o_X2_show_100 (by decide) (fun h42 => ?_) (fun h42 => ?_)
              · replace h42 := bI_f (b := bx41) (rfl) h42
                refine wa_iinc (v := (1)) (lv' := fun y43 => [(4, .int y43), (6, .int (-1)), (5, .int v10), (0, .ref 7), (1, .int a0), (2, .ref 18), (3, .int x3)]) (by decide) rfl (by decide) (fun _ => rfl) (fun y43 hy43 => ?_)
                have ty43 := i_addT hy43.symm
                clear hy43
                refine wa_goto o_X2_show_15 (by decide) ?_
                refine wa_pick [3, 4, 5, 6, 0] rfl ?_
                exact ih5 _ (by ((try simp only [vp_in_iff, Int32.lt_iff_toInt_lt, Int32.le_iff_toInt_le, ← Int32.toInt_inj, Int32.reduceToInt, n_1, n_2, n_8, Int32.toNatClampNeg, Int64.lt_iff_toInt_lt, Int64.le_iff_toInt_le, ← Int64.toInt_inj, Int64.reduceToInt, Int32.toInt_toInt64, lg_cmp_ge, lg_cmp_le, lg_cmp_gt, lg_cmp_lt, lg_cmp_eq, Bool.false_eq_true, Bool.true_eq_false, reduceCtorEq, false_iff, true_iff, iff_true, iff_false, and_true, true_and, and_false, false_and, reduceIte, ite_true, ite_false, eq_self] at *)) <;> omega) _ _ ⟨Fs4, (by ((try simp only [vp_in_iff, Int32.lt_iff_toInt_lt, Int32.le_iff_toInt_le, ← Int32.toInt_inj, Int32.reduceToInt, n_1, n_2, n_8, Int32.toNatClampNeg, Int64.lt_iff_toInt_lt, Int64.le_iff_toInt_le, ← Int64.toInt_inj, Int64.reduceToInt, Int32.toInt_toInt64, lg_cmp_ge, lg_cmp_le, lg_cmp_gt, lg_cmp_lt, lg_cmp_eq, Bool.false_eq_true, Bool.true_eq_false, reduceCtorEq, false_iff, true_iff, iff_true, iff_false, and_true, true_and, and_false, false_and, reduceIte, ite_true, ite_false, eq_self] at *)) <;> omega), trivial⟩ rfl
              · replace h42 := bI_t (b := bx41) (rfl) h42
                refine wa_aload_n (i := 0) rfl rfl ?_
                refine wa_aload_n (i := 0) rfl rfl ?_
                refine wa_iload_n (i := 1) rfl rfl ?_
                refine wa_iload rfl ?_
                refine wa_Vi (d9 := d - 1) [.int _, .int _] [.ref 7] (sp_X2_token G (d := d - 1) (by omega) s4 _ _) (rfl) rfl rfl (zr (by omega)) mk_X2_token ly_7 ml_2_74 (Nat.le_of_ble_eq_true rfl) (fun x45 s44 hs44 => ?_)
                obtain ⟨zs44, -⟩ := pI hs44
                subst zs44
                refine wa_aload_n (i := 2) rfl rfl ?_
                refine wa_Vv (d9 := d - 1) [.int _, .ref 18] [] (sp_X2_showToken G (d := d - 1) (by omega) s4 _) (rfl) rfl rfl (zr (by omega)) mk_X2_showToken ly_7 ml_2_93 (Nat.le_of_ble_eq_true rfl) (fun s46 hs46 => ?_)
                obtain ⟨fs46, -⟩ := hs46
                have Fs46 := Sm.tr Fs4 (Sm.wd fs46 (lo' := 7) (hi' := 18) (by decide) (by decide))
                refine wa_iinc (v := (1)) (lv' := fun y48 => [(4, .int y48), (6, .int (-1)), (5, .int v10), (0, .ref 7), (1, .int a0), (2, .ref 18), (3, .int x3)]) (by decide) rfl (by decide) (fun _ => rfl) (fun y48 hy48 => ?_)
                have ty48 := i_addT hy48.symm
                clear hy48
                refine wa_goto o_X2_show_15 (by decide) ?_
                refine wa_pick [3, 4, 5, 6, 0] rfl ?_
                exact ih5 _ (by ((try simp only [vp_in_iff, Int32.lt_iff_toInt_lt, Int32.le_iff_toInt_le, ← Int32.toInt_inj, Int32.reduceToInt, n_1, n_2, n_8, Int32.toNatClampNeg, Int64.lt_iff_toInt_lt, Int64.le_iff_toInt_le, ← Int64.toInt_inj, Int64.reduceToInt, Int32.toInt_toInt64, lg_cmp_ge, lg_cmp_le, lg_cmp_gt, lg_cmp_lt, lg_cmp_eq, Bool.false_eq_true, Bool.true_eq_false, reduceCtorEq, false_iff, true_iff, iff_true, iff_false, and_true, true_and, and_false, false_and, reduceIte, ite_true, ite_false, eq_self] at *)) <;> omega) _ _ ⟨Fs46, (by ((try simp only [vp_in_iff, Int32.lt_iff_toInt_lt, Int32.le_iff_toInt_le, ← Int32.toInt_inj, Int32.reduceToInt, n_1, n_2, n_8, Int32.toNatClampNeg, Int64.lt_iff_toInt_lt, Int64.le_iff_toInt_le, ← Int64.toInt_inj, Int64.reduceToInt, Int32.toInt_toInt64, lg_cmp_ge, lg_cmp_le, lg_cmp_gt, lg_cmp_lt, lg_cmp_eq, Bool.false_eq_true, Bool.true_eq_false, reduceCtorEq, false_iff, true_iff, iff_true, iff_false, and_true, true_and, and_false, false_and, reduceIte, ite_true, ite_false, eq_self] at *)) <;> omega), trivial⟩ rfl
          · refine wa_aload_n (i := 0) rfl rfl ?_
            refine wa_iload_n (i := 1) rfl rfl ?_
            refine wa_iload rfl ?_
            refine wa_iload rfl ?_
            refine wa_Vi (d9 := d - 1) [.int _, .int _, .int _] [] (sp_X2_partnerOf G (d := d - 1) (by omega) s4 _ _ _) (rfl) rfl rfl (zr (by omega)) mk_X2_partnerOf ly_7 ml_2_77 (Nat.le_of_ble_eq_true rfl) (fun x50 s49 hs49 => ?_)
            obtain ⟨zs49, -⟩ := pI hs49
            subst zs49
            refine wa_goto o_X2_show_58 (by decide) ?_
            refine wa_istoreD (lv' := [(6, .int x50), (5, .int v10), (0, .ref 7), (1, .int a0), (2, .ref 18), (3, .int x3), (4, .int l4)]) (by decide) rfl ?_
            refine wa_iload rfl ?_
            refine wa_iconst (v := (-1)) (by decide) ?_
            refine wa_icmp_eq o_X2_show_88 (by decide) (fun h51 => ?_) (fun h51 => ?_)
            · refine wa_aload_n (i := 0) rfl rfl ?_
              refine wa_aload_n (i := 0) rfl rfl ?_
              refine wa_iload_n (i := 1) rfl rfl ?_
              refine wa_iload rfl ?_
              refine wa_Vi (d9 := d - 1) [.int _, .int _] [.ref 7] (sp_X2_token G (d := d - 1) (by omega) s4 _ _) (rfl) rfl rfl (zr (by omega)) mk_X2_token ly_7 ml_2_74 (Nat.le_of_ble_eq_true rfl) (fun x53 s52 hs52 => ?_)
              obtain ⟨zs52, -⟩ := pI hs52
              subst zs52
              refine wa_aload_n (i := 2) rfl rfl ?_
              refine wa_Vv (d9 := d - 1) [.int _, .ref 18] [] (sp_X2_showToken G (d := d - 1) (by omega) s4 _) (rfl) rfl rfl (zr (by omega)) mk_X2_showToken ly_7 ml_2_93 (Nat.le_of_ble_eq_true rfl) (fun s54 hs54 => ?_)
              obtain ⟨fs54, -⟩ := hs54
              have Fs54 := Sm.tr Fs4 (Sm.wd fs54 (lo' := 7) (hi' := 18) (by decide) (by decide))
              refine wa_iinc (v := (1)) (lv' := fun y56 => [(4, .int y56), (6, .int x50), (5, .int v10), (0, .ref 7), (1, .int a0), (2, .ref 18), (3, .int x3)]) (by decide) rfl (by decide) (fun _ => rfl) (fun y56 hy56 => ?_)
              have ty56 := i_addT hy56.symm
              clear hy56
              refine wa_goto o_X2_show_15 (by decide) ?_
              refine wa_pick [3, 4, 5, 6, 0] rfl ?_
              exact ih5 _ (by ((try simp only [vp_in_iff, Int32.lt_iff_toInt_lt, Int32.le_iff_toInt_le, ← Int32.toInt_inj, Int32.reduceToInt, n_1, n_2, n_8, Int32.toNatClampNeg, Int64.lt_iff_toInt_lt, Int64.le_iff_toInt_le, ← Int64.toInt_inj, Int64.reduceToInt, Int32.toInt_toInt64, lg_cmp_ge, lg_cmp_le, lg_cmp_gt, lg_cmp_lt, lg_cmp_eq, Bool.false_eq_true, Bool.true_eq_false, reduceCtorEq, false_iff, true_iff, iff_true, iff_false, and_true, true_and, and_false, false_and, reduceIte, ite_true, ite_false, eq_self] at *)) <;> omega) _ _ ⟨Fs54, (by ((try simp only [vp_in_iff, Int32.lt_iff_toInt_lt, Int32.le_iff_toInt_le, ← Int32.toInt_inj, Int32.reduceToInt, n_1, n_2, n_8, Int32.toNatClampNeg, Int64.lt_iff_toInt_lt, Int64.le_iff_toInt_le, ← Int64.toInt_inj, Int64.reduceToInt, Int32.toInt_toInt64, lg_cmp_ge, lg_cmp_le, lg_cmp_gt, lg_cmp_lt, lg_cmp_eq, Bool.false_eq_true, Bool.true_eq_false, reduceCtorEq, false_iff, true_iff, iff_true, iff_false, and_true, true_and, and_false, false_and, reduceIte, ite_true, ite_false, eq_self] at *)) <;> omega), trivial⟩ rfl
            · refine wa_aload_n (i := 0) rfl rfl ?_
              refine wa_iload_n (i := 1) rfl rfl ?_
              refine wa_iload rfl ?_
              refine wa_iload rfl ?_
              refine wa_minI zs (allW_in (kT_6 _ (List.mem_of_getElem? (i := 38) rfl)) rfl) (Nat.le_of_ble_eq_true rfl) ?_
              refine wa_top (fun v57 hv57 => ?_)
              have tv57 := i_minI hv57
              clear hv57
              refine wa_iload rfl ?_
              refine wa_iload rfl ?_
              refine wa_maxI zs (allW_in (kT_6 _ (List.mem_of_getElem? (i := 39) rfl)) rfl) (Nat.le_of_ble_eq_true rfl) ?_
              refine wa_top (fun v58 hv58 => ?_)
              have tv58 := i_maxI hv58
              clear hv58
              refine wa_Vi (d9 := d - 1) [.int _, .int _, .int _] [] (sp_X2_isNeeded G (d := d - 1) (by omega) s4 _ _ _) (rfl) rfl rfl (zr (by omega)) mk_X2_isNeeded ly_7 ml_2_89 (Nat.le_of_ble_eq_true rfl) (fun x60 s59 hs59 => ?_)
              obtain ⟨bx60, ex60, zs59, -⟩ := pB hs59
              subst ex60
              subst zs59
              refine wa_if_eq o_X2_show_100 (by decide) (fun h61 => ?_) (fun h61 => ?_)
              · replace h61 := bI_f (b := bx60) (rfl) h61
                refine wa_iinc (v := (1)) (lv' := fun y62 => [(4, .int y62), (6, .int x50), (5, .int v10), (0, .ref 7), (1, .int a0), (2, .ref 18), (3, .int x3)]) (by decide) rfl (by decide) (fun _ => rfl) (fun y62 hy62 => ?_)
                have ty62 := i_addT hy62.symm
                clear hy62
                refine wa_goto o_X2_show_15 (by decide) ?_
                refine wa_pick [3, 4, 5, 6, 0] rfl ?_
                exact ih5 _ (by ((try simp only [vp_in_iff, Int32.lt_iff_toInt_lt, Int32.le_iff_toInt_le, ← Int32.toInt_inj, Int32.reduceToInt, n_1, n_2, n_8, Int32.toNatClampNeg, Int64.lt_iff_toInt_lt, Int64.le_iff_toInt_le, ← Int64.toInt_inj, Int64.reduceToInt, Int32.toInt_toInt64, lg_cmp_ge, lg_cmp_le, lg_cmp_gt, lg_cmp_lt, lg_cmp_eq, Bool.false_eq_true, Bool.true_eq_false, reduceCtorEq, false_iff, true_iff, iff_true, iff_false, and_true, true_and, and_false, false_and, reduceIte, ite_true, ite_false, eq_self] at *)) <;> omega) _ _ ⟨Fs4, (by ((try simp only [vp_in_iff, Int32.lt_iff_toInt_lt, Int32.le_iff_toInt_le, ← Int32.toInt_inj, Int32.reduceToInt, n_1, n_2, n_8, Int32.toNatClampNeg, Int64.lt_iff_toInt_lt, Int64.le_iff_toInt_le, ← Int64.toInt_inj, Int64.reduceToInt, Int32.toInt_toInt64, lg_cmp_ge, lg_cmp_le, lg_cmp_gt, lg_cmp_lt, lg_cmp_eq, Bool.false_eq_true, Bool.true_eq_false, reduceCtorEq, false_iff, true_iff, iff_true, iff_false, and_true, true_and, and_false, false_and, reduceIte, ite_true, ite_false, eq_self] at *)) <;> omega), trivial⟩ rfl
              · replace h61 := bI_t (b := bx60) (rfl) h61
                refine wa_aload_n (i := 0) rfl rfl ?_
                refine wa_aload_n (i := 0) rfl rfl ?_
                refine wa_iload_n (i := 1) rfl rfl ?_
                refine wa_iload rfl ?_
                refine wa_Vi (d9 := d - 1) [.int _, .int _] [.ref 7] (sp_X2_token G (d := d - 1) (by omega) s4 _ _) (rfl) rfl rfl (zr (by omega)) mk_X2_token ly_7 ml_2_74 (Nat.le_of_ble_eq_true rfl) (fun x64 s63 hs63 => ?_)
                obtain ⟨zs63, -⟩ := pI hs63
                subst zs63
                refine wa_aload_n (i := 2) rfl rfl ?_
                refine wa_Vv (d9 := d - 1) [.int _, .ref 18] [] (sp_X2_showToken G (d := d - 1) (by omega) s4 _) (rfl) rfl rfl (zr (by omega)) mk_X2_showToken ly_7 ml_2_93 (Nat.le_of_ble_eq_true rfl) (fun s65 hs65 => ?_)
                obtain ⟨fs65, -⟩ := hs65
                have Fs65 := Sm.tr Fs4 (Sm.wd fs65 (lo' := 7) (hi' := 18) (by decide) (by decide))
                refine wa_iinc (v := (1)) (lv' := fun y67 => [(4, .int y67), (6, .int x50), (5, .int v10), (0, .ref 7), (1, .int a0), (2, .ref 18), (3, .int x3)]) (by decide) rfl (by decide) (fun _ => rfl) (fun y67 hy67 => ?_)
                have ty67 := i_addT hy67.symm
                clear hy67
                refine wa_goto o_X2_show_15 (by decide) ?_
                refine wa_pick [3, 4, 5, 6, 0] rfl ?_
                exact ih5 _ (by ((try simp only [vp_in_iff, Int32.lt_iff_toInt_lt, Int32.le_iff_toInt_le, ← Int32.toInt_inj, Int32.reduceToInt, n_1, n_2, n_8, Int32.toNatClampNeg, Int64.lt_iff_toInt_lt, Int64.le_iff_toInt_le, ← Int64.toInt_inj, Int64.reduceToInt, Int32.toInt_toInt64, lg_cmp_ge, lg_cmp_le, lg_cmp_gt, lg_cmp_lt, lg_cmp_eq, Bool.false_eq_true, Bool.true_eq_false, reduceCtorEq, false_iff, true_iff, iff_true, iff_false, and_true, true_and, and_false, false_and, reduceIte, ite_true, ite_false, eq_self] at *)) <;> omega) _ _ ⟨Fs65, (by ((try simp only [vp_in_iff, Int32.lt_iff_toInt_lt, Int32.le_iff_toInt_le, ← Int32.toInt_inj, Int32.reduceToInt, n_1, n_2, n_8, Int32.toNatClampNeg, Int64.lt_iff_toInt_lt, Int64.le_iff_toInt_le, ← Int64.toInt_inj, Int64.reduceToInt, Int32.toInt_toInt64, lg_cmp_ge, lg_cmp_le, lg_cmp_gt, lg_cmp_lt, lg_cmp_eq, Bool.false_eq_true, Bool.true_eq_false, reduceCtorEq, false_iff, true_iff, iff_true, iff_false, and_true, true_and, and_false, false_and, reduceIte, ite_true, ite_false, eq_self] at *)) <;> omega), trivial⟩ rfl
  exact hi6 _ _ _ ⟨Fs1, (by ((try simp only [vp_in_iff, Int32.lt_iff_toInt_lt, Int32.le_iff_toInt_le, ← Int32.toInt_inj, Int32.reduceToInt, n_1, n_2, n_8, Int32.toNatClampNeg, Int64.lt_iff_toInt_lt, Int64.le_iff_toInt_le, ← Int64.toInt_inj, Int64.reduceToInt, Int32.toInt_toInt64, lg_cmp_ge, lg_cmp_le, lg_cmp_gt, lg_cmp_lt, lg_cmp_eq, Bool.false_eq_true, Bool.true_eq_false, reduceCtorEq, false_iff, true_iff, iff_true, iff_false, and_true, true_and, and_false, false_and, reduceIte, ite_true, ite_false, eq_self] at *)) <;> omega), trivial⟩ rfl
set_option maxHeartbeats 4000000 in
theorem sp_X11_print (G : kG9) {d : Nat} (hd : 7 ≤ d) (σ : St) (a0 : Int32) : Ct G M_X11_print d [.ref 0, .int a0] σ (fun r σ' => ∃ x : Int32, r = some (.int x) ∧ Fm [7, 8, 9, 10, 11, 12, 13, 14, 15, 16, 17] [] σ σ' ∧ True) := by
  refine wa_start (by decide) rfl (Nat.le_of_ble_eq_true rfl) (lv := [(0, .ref 0), (1, .int a0)]) rfl o_X11_print_0 rfl ?_
  have ua0 := Int32.toInt_lt a0
  have wa0 := Int32.le_toInt a0
  refine wa_aload_n (i := 0) rfl rfl ?_
  refine wa_getr ck_11 fl_11_16 ly_0 rf_0_1 ?_
  refine wa_getz ck_1 fl_11_122 ly_2 ?_
  refine wa_if_eq o_X11_print_13 (by decide) (fun h1 => ?_) (fun h1 => ?_)
  · replace h1 := bI_f (b := (gb σ 2 8)) (rfl) h1
    refine wa_aload_n (i := 0) rfl rfl ?_
    refine wa_getr ck_11 fl_11_23 ly_0 rf_0_2 ?_
    refine wa_iload_n (i := 1) rfl rfl ?_
    refine wa_Vi (d9 := d - 1) [.int _] [] (sp_X2_isClaim G (d := d - 1) (by omega) σ _) (rfl) rfl rfl (zr (by omega)) mk_X2_isClaim ly_7 ml_11_176 (Nat.le_of_ble_eq_true rfl) (fun x3 s2 hs2 => ?_)
    obtain ⟨bx3, ex3, zs2, -⟩ := pB hs2
    subst ex3
    subst zs2
    refine wa_if_ne o_X11_print_27 (by decide) (fun h4 => ?_) (fun h4 => ?_)
    · replace h4 := bI_t (b := bx3) (rfl) h4
      refine wa_aload_n (i := 0) rfl rfl ?_
      refine wa_getr ck_11 fl_11_23 ly_0 rf_0_2 ?_
      refine wa_iload_n (i := 1) rfl rfl ?_
      refine wa_aload_n (i := 0) rfl rfl ?_
      refine wa_getr ck_11 fl_11_30 ly_0 rf_0_3 ?_
      refine wa_Vi (d9 := d - 1) [.int _, .ref 18] [] (sp_X2_show G (d := d - 1) (by omega) σ _) (rfl) rfl rfl (zr (by omega)) mk_X2_show ly_7 ml_11_279 (Nat.le_of_ble_eq_true rfl) (fun x6 s5 hs5 => ?_)
      obtain ⟨fs5, -⟩ := pI hs5
      have Fs5 : Fm [7, 8, 9, 10, 11, 12, 13, 14, 15, 16, 17] [] σ s5 := Fm.tr (Fm.rf [7, 8, 9, 10, 11, 12, 13, 14, 15, 16, 17] [] σ) (Fm.ofSm fs5 rfl)
      refine wa_ireturn rfl rfl ?_
      exact ⟨_, rfl, Fs5, trivial⟩
    · replace h4 := bI_f (b := bx3) (rfl) h4
      refine wa_bipush (v := (-101)) (by decide) ?_
      refine wa_ireturn rfl rfl ?_
      exact ⟨_, rfl, (Fm.rf [7, 8, 9, 10, 11, 12, 13, 14, 15, 16, 17] [] σ), trivial⟩
  · replace h1 := bI_t (b := (gb σ 2 8)) (rfl) h1
    refine wa_bipush (v := (-105)) (by decide) ?_
    refine wa_ireturn rfl rfl ?_
    exact ⟨_, rfl, (Fm.rf [7, 8, 9, 10, 11, 12, 13, 14, 15, 16, 17] [] σ), trivial⟩
theorem pad_21i : True := trivial
