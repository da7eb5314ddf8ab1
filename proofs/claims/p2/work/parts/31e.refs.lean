set_option maxHeartbeats 4000000 in
theorem sp_X12_audit (G : kG9) {d : Nat} (hd : 1 ≤ d) (σ : St) : Ct G M_X12_audit d [.ref 84] σ (fun r σ' => ∃ x : Int32, r = some (.int x) ∧ Fm [] [0] σ σ' ∧ True) := by
  refine wa_start (by decide) rfl (Nat.le_of_ble_eq_true rfl) (lv := [(0, .ref 84)]) rfl o_X12_audit_0 rfl ?_
  refine wa_aload_n (i := 0) rfl rfl ?_
  refine wa_Vi (d9 := d - 1) [] [] (sp_X12_asks G (d := d - 1) (by omega) σ ) (rfl) rfl rfl (zr (by omega)) mk_X12_asks ly_84 ml_12_871 (Nat.le_of_ble_eq_true rfl) (fun x2 s1 hs1 => ?_)
  obtain ⟨bx2, ex2, fs1, -⟩ := pB hs1
  subst ex2
  have Fs1 : Fm [] [0] σ s1 := Fm.tr (Fm.rf [] [0] σ) (Fm.wd fs1 rfl rfl)
  refine wa_if_eq o_X12_audit_11 (by decide) (fun h3 => ?_) (fun h3 => ?_)
  · replace h3 := bI_f (b := bx2) (rfl) h3
    refine wa_bipush (v := (-105)) (by decide) ?_
    refine wa_ireturn rfl rfl ?_
    exact ⟨_, rfl, Fs1, trivial⟩
  · replace h3 := bI_t (b := bx2) (rfl) h3
    refine wa_iconst (v := 0) (by decide) ?_
    refine wa_goto o_X12_audit_13 (by decide) ?_
    refine wa_ireturn rfl rfl ?_
    exact ⟨_, rfl, Fs1, trivial⟩
theorem pad_31e : True := trivial
