theorem kT_1 : ∀ w ∈ tables_1_1, w ∈ lw_tbl := fun w h => List.mem_append_right _ (List.mem_append_left _ h)
theorem kT_2 : ∀ w ∈ tables_1_2, w ∈ lw_tbl := fun w h => List.mem_append_right _ (List.mem_append_right _ (List.mem_append_left _ h))
theorem kT_3 : ∀ w ∈ tables_1_3, w ∈ lw_tbl := fun w h => List.mem_append_right _ (List.mem_append_right _ (List.mem_append_right _ (List.mem_append_left _ h)))
theorem kT_4 : ∀ w ∈ tables_1_4, w ∈ lw_tbl := fun w h => List.mem_append_right _ (List.mem_append_right _ (List.mem_append_right _ (List.mem_append_right _ (List.mem_append_left _ h))))
theorem kT_5 : ∀ w ∈ tables_1_5, w ∈ lw_tbl := fun w h => List.mem_append_right _ (List.mem_append_right _ (List.mem_append_right _ (List.mem_append_right _ (List.mem_append_right _ (List.mem_append_left _ h)))))
theorem kT_6 : ∀ w ∈ tables_1_6, w ∈ lw_tbl := fun w h => List.mem_append_right _ (List.mem_append_right _ (List.mem_append_right _ (List.mem_append_right _ (List.mem_append_right _ (List.mem_append_right _ (List.mem_append_left _ h))))))
theorem kT_7 : ∀ w ∈ tables_1_7, w ∈ lw_tbl := fun w h => List.mem_append_right _ (List.mem_append_right _ (List.mem_append_right _ (List.mem_append_right _ (List.mem_append_right _ (List.mem_append_right _ (List.mem_append_right _ (List.mem_append_left _ h)))))))
theorem kT_8 : ∀ w ∈ tables_1_8, w ∈ lw_tbl := fun w h => List.mem_append_right _ (List.mem_append_right _ (List.mem_append_right _ (List.mem_append_right _ (List.mem_append_right _ (List.mem_append_right _ (List.mem_append_right _ (List.mem_append_right _ (List.mem_append_left _ h))))))))
theorem kT_9 : ∀ w ∈ tables_1_9, w ∈ lw_tbl := fun w h => List.mem_append_right _ (List.mem_append_right _ (List.mem_append_right _ (List.mem_append_right _ (List.mem_append_right _ (List.mem_append_right _ (List.mem_append_right _ (List.mem_append_right _ (List.mem_append_right _ (List.mem_append_left _ h)))))))))
theorem kT_10 : ∀ w ∈ tables_1_10, w ∈ lw_tbl := fun w h => List.mem_append_right _ (List.mem_append_right _ (List.mem_append_right _ (List.mem_append_right _ (List.mem_append_right _ (List.mem_append_right _ (List.mem_append_right _ (List.mem_append_right _ (List.mem_append_right _ (List.mem_append_right _ (List.mem_append_left _ h))))))))))
theorem kT_11 : ∀ w ∈ tables_1_11, w ∈ lw_tbl := fun w h => List.mem_append_right _ (List.mem_append_right _ (List.mem_append_right _ (List.mem_append_right _ (List.mem_append_right _ (List.mem_append_right _ (List.mem_append_right _ (List.mem_append_right _ (List.mem_append_right _ (List.mem_append_right _ (List.mem_append_right _ (List.mem_append_left _ h)))))))))))
theorem kT_12 : ∀ w ∈ tables_1_12, w ∈ lw_tbl := fun w h => List.mem_append_right _ (List.mem_append_right _ (List.mem_append_right _ (List.mem_append_right _ (List.mem_append_right _ (List.mem_append_right _ (List.mem_append_right _ (List.mem_append_right _ (List.mem_append_right _ (List.mem_append_right _ (List.mem_append_right _ (List.mem_append_right _ (List.mem_append_left _ h))))))))))))
theorem kT_13 : ∀ w ∈ tables_1_13, w ∈ lw_tbl := fun w h => List.mem_append_right _ (List.mem_append_right _ (List.mem_append_right _ (List.mem_append_right _ (List.mem_append_right _ (List.mem_append_right _ (List.mem_append_right _ (List.mem_append_right _ (List.mem_append_right _ (List.mem_append_right _ (List.mem_append_right _ (List.mem_append_right _ (List.mem_append_right _ (List.mem_append_left _ h)))))))))))))
theorem kT_14 : ∀ w ∈ tables_1_14, w ∈ lw_tbl := fun w h => List.mem_append_right _ (List.mem_append_right _ (List.mem_append_right _ (List.mem_append_right _ (List.mem_append_right _ (List.mem_append_right _ (List.mem_append_right _ (List.mem_append_right _ (List.mem_append_right _ (List.mem_append_right _ (List.mem_append_right _ (List.mem_append_right _ (List.mem_append_right _ (List.mem_append_right _ (List.mem_append_left _ h))))))))))))))
theorem kT_15 : ∀ w ∈ tables_1_15, w ∈ lw_tbl := fun w h => List.mem_append_right _ (List.mem_append_right _ (List.mem_append_right _ (List.mem_append_right _ (List.mem_append_right _ (List.mem_append_right _ (List.mem_append_right _ (List.mem_append_right _ (List.mem_append_right _ (List.mem_append_right _ (List.mem_append_right _ (List.mem_append_right _ (List.mem_append_right _ (List.mem_append_right _ (List.mem_append_right _ (List.mem_append_left _ h)))))))))))))))
theorem kT_16 : ∀ w ∈ tables_1_16, w ∈ lw_tbl := fun w h => List.mem_append_right _ (List.mem_append_right _ (List.mem_append_right _ (List.mem_append_right _ (List.mem_append_right _ (List.mem_append_right _ (List.mem_append_right _ (List.mem_append_right _ (List.mem_append_right _ (List.mem_append_right _ (List.mem_append_right _ (List.mem_append_right _ (List.mem_append_right _ (List.mem_append_right _ (List.mem_append_right _ (List.mem_append_right _ h)))))))))))))))
theorem kTs_1 : ∀ w ∈ k2_sels lw_privs_1, w ∈ lw_tbl := fun w h => List.mem_append_left _ (k_tS (fun q h => (List.mem_append_left _ h)) w h)
theorem kTs_2 : ∀ w ∈ k2_sels lw_privs_2, w ∈ lw_tbl := fun w h => List.mem_append_left _ (k_tS (fun q h => (List.mem_append_right _ (List.mem_append_left _ h))) w h)
theorem kTs_3 : ∀ w ∈ k2_sels lw_privs_3, w ∈ lw_tbl := fun w h => List.mem_append_left _ (k_tS (fun q h => (List.mem_append_right _ (List.mem_append_right _ (List.mem_append_left _ h)))) w h)
theorem kTs_4 : ∀ w ∈ k2_sels lw_privs_4, w ∈ lw_tbl := fun w h => List.mem_append_left _ (k_tS (fun q h => (List.mem_append_right _ (List.mem_append_right _ (List.mem_append_right _ (List.mem_append_left _ h))))) w h)
theorem kTs_5 : ∀ w ∈ k2_sels lw_privs_5, w ∈ lw_tbl := fun w h => List.mem_append_left _ (k_tS (fun q h => (List.mem_append_right _ (List.mem_append_right _ (List.mem_append_right _ (List.mem_append_right _ (List.mem_append_left _ h)))))) w h)
theorem kTs_6 : ∀ w ∈ k2_sels lw_privs_6, w ∈ lw_tbl := fun w h => List.mem_append_left _ (k_tS (fun q h => (List.mem_append_right _ (List.mem_append_right _ (List.mem_append_right _ (List.mem_append_right _ (List.mem_append_right _ (List.mem_append_left _ h))))))) w h)
theorem kTs_7 : ∀ w ∈ k2_sels lw_privs_7, w ∈ lw_tbl := fun w h => List.mem_append_left _ (k_tS (fun q h => (List.mem_append_right _ (List.mem_append_right _ (List.mem_append_right _ (List.mem_append_right _ (List.mem_append_right _ (List.mem_append_right _ (List.mem_append_left _ h)))))))) w h)
theorem kTs_8 : ∀ w ∈ k2_sels lw_privs_8, w ∈ lw_tbl := fun w h => List.mem_append_left _ (k_tS (fun q h => (List.mem_append_right _ (List.mem_append_right _ (List.mem_append_right _ (List.mem_append_right _ (List.mem_append_right _ (List.mem_append_right _ (List.mem_append_right _ (List.mem_append_left _ h))))))))) w h)
theorem kTs_9 : ∀ w ∈ k2_sels lw_privs_9, w ∈ lw_tbl := fun w h => List.mem_append_left _ (k_tS (fun q h => (List.mem_append_right _ (List.mem_append_right _ (List.mem_append_right _ (List.mem_append_right _ (List.mem_append_right _ (List.mem_append_right _ (List.mem_append_right _ (List.mem_append_right _ (List.mem_append_left _ h)))))))))) w h)
theorem kTs_10 : ∀ w ∈ k2_sels lw_privs_10, w ∈ lw_tbl := fun w h => List.mem_append_left _ (k_tS (fun q h => (List.mem_append_right _ (List.mem_append_right _ (List.mem_append_right _ (List.mem_append_right _ (List.mem_append_right _ (List.mem_append_right _ (List.mem_append_right _ (List.mem_append_right _ (List.mem_append_right _ (List.mem_append_left _ h))))))))))) w h)
theorem kTs_11 : ∀ w ∈ k2_sels lw_privs_11, w ∈ lw_tbl := fun w h => List.mem_append_left _ (k_tS (fun q h => (List.mem_append_right _ (List.mem_append_right _ (List.mem_append_right _ (List.mem_append_right _ (List.mem_append_right _ (List.mem_append_right _ (List.mem_append_right _ (List.mem_append_right _ (List.mem_append_right _ (List.mem_append_right _ (List.mem_append_left _ h)))))))))))) w h)
theorem kTs_12 : ∀ w ∈ k2_sels lw_privs_12, w ∈ lw_tbl := fun w h => List.mem_append_left _ (k_tS (fun q h => (List.mem_append_right _ (List.mem_append_right _ (List.mem_append_right _ (List.mem_append_right _ (List.mem_append_right _ (List.mem_append_right _ (List.mem_append_right _ (List.mem_append_right _ (List.mem_append_right _ (List.mem_append_right _ (List.mem_append_right _ (List.mem_append_left _ h))))))))))))) w h)
theorem kTs_13 : ∀ w ∈ k2_sels lw_privs_13, w ∈ lw_tbl := fun w h => List.mem_append_left _ (k_tS (fun q h => (List.mem_append_right _ (List.mem_append_right _ (List.mem_append_right _ (List.mem_append_right _ (List.mem_append_right _ (List.mem_append_right _ (List.mem_append_right _ (List.mem_append_right _ (List.mem_append_right _ (List.mem_append_right _ (List.mem_append_right _ (List.mem_append_right _ (List.mem_append_left _ h)))))))))))))) w h)
theorem kTs_14 : ∀ w ∈ k2_sels lw_privs_14, w ∈ lw_tbl := fun w h => List.mem_append_left _ (k_tS (fun q h => (List.mem_append_right _ (List.mem_append_right _ (List.mem_append_right _ (List.mem_append_right _ (List.mem_append_right _ (List.mem_append_right _ (List.mem_append_right _ (List.mem_append_right _ (List.mem_append_right _ (List.mem_append_right _ (List.mem_append_right _ (List.mem_append_right _ (List.mem_append_right _ (List.mem_append_left _ h))))))))))))))) w h)
theorem kTs_15 : ∀ w ∈ k2_sels lw_privs_15, w ∈ lw_tbl := fun w h => List.mem_append_left _ (k_tS (fun q h => (List.mem_append_right _ (List.mem_append_right _ (List.mem_append_right _ (List.mem_append_right _ (List.mem_append_right _ (List.mem_append_right _ (List.mem_append_right _ (List.mem_append_right _ (List.mem_append_right _ (List.mem_append_right _ (List.mem_append_right _ (List.mem_append_right _ (List.mem_append_right _ (List.mem_append_right _ (List.mem_append_left _ h)))))))))))))))) w h)
theorem kTs_16 : ∀ w ∈ k2_sels lw_privs_16, w ∈ lw_tbl := fun w h => List.mem_append_left _ (k_tS (fun q h => (List.mem_append_right _ (List.mem_append_right _ (List.mem_append_right _ (List.mem_append_right _ (List.mem_append_right _ (List.mem_append_right _ (List.mem_append_right _ (List.mem_append_right _ (List.mem_append_right _ (List.mem_append_right _ (List.mem_append_right _ (List.mem_append_right _ (List.mem_append_right _ (List.mem_append_right _ (List.mem_append_right _ (List.mem_append_left _ h))))))))))))))))) w h)
theorem kTs_17 : ∀ w ∈ k2_sels lw_privs_17, w ∈ lw_tbl := fun w h => List.mem_append_left _ (k_tS (fun q h => (List.mem_append_right _ (List.mem_append_right _ (List.mem_append_right _ (List.mem_append_right _ (List.mem_append_right _ (List.mem_append_right _ (List.mem_append_right _ (List.mem_append_right _ (List.mem_append_right _ (List.mem_append_right _ (List.mem_append_right _ (List.mem_append_right _ (List.mem_append_right _ (List.mem_append_right _ (List.mem_append_right _ (List.mem_append_right _ (List.mem_append_left _ h)))))))))))))))))) w h)
theorem kTs_18 : ∀ w ∈ k2_sels lw_privs_18, w ∈ lw_tbl := fun w h => List.mem_append_left _ (k_tS (fun q h => (List.mem_append_right _ (List.mem_append_right _ (List.mem_append_right _ (List.mem_append_right _ (List.mem_append_right _ (List.mem_append_right _ (List.mem_append_right _ (List.mem_append_right _ (List.mem_append_right _ (List.mem_append_right _ (List.mem_append_right _ (List.mem_append_right _ (List.mem_append_right _ (List.mem_append_right _ (List.mem_append_right _ (List.mem_append_right _ (List.mem_append_right _ (List.mem_append_left _ h))))))))))))))))))) w h)
theorem kTs_19 : ∀ w ∈ k2_sels lw_privs_19, w ∈ lw_tbl := fun w h => List.mem_append_left _ (k_tS (fun q h => (List.mem_append_right _ (List.mem_append_right _ (List.mem_append_right _ (List.mem_append_right _ (List.mem_append_right _ (List.mem_append_right _ (List.mem_append_right _ (List.mem_append_right _ (List.mem_append_right _ (List.mem_append_right _ (List.mem_append_right _ (List.mem_append_right _ (List.mem_append_right _ (List.mem_append_right _ (List.mem_append_right _ (List.mem_append_right _ (List.mem_append_right _ (List.mem_append_right _ h))))))))))))))))))) w h)
set_option maxRecDepth 100000 in
theorem e8_0 : u_ws RX0 TX0 19 = [.laysFinal "IntegerHouse$Answers" "IntegerHouse$Answers" "house" "LIntegerHouse$House;", .laysFinal "IntegerHouse$Answers" "IntegerHouse$Answers" "places" "LIntegerHouse$Places;", .laysFinal "IntegerHouse$Answers" "IntegerHouse$Answers" "values" "[J", .laysFinal "IntegerHouse$Answers" "IntegerHouse$Answers" "tried" "[J", .laysFinal "IntegerHouse$Answers" "IntegerHouse$Answers" "far" "[I", .laysFinal "IntegerHouse$Answers" "IntegerHouse$Answers" "ends" "[I", .laysFinal "IntegerHouse$Answers" "IntegerHouse$Answers" "weights" "[J", .laysFinal "IntegerHouse$Answers" "IntegerHouse$Answers" "gains" "[J", .laysFinal "IntegerHouse$Answers" "IntegerHouse$Answers" "gained" "[J", .laysFinal "IntegerHouse$Answers" "IntegerHouse$Answers" "coreTold" "[I", .laysFinal "IntegerHouse$Answers" "IntegerHouse$Answers" "limbs" "[J", .lays "IntegerHouse$Answers" "IntegerHouse$Answers" "valuesTold" "I", .lays "IntegerHouse$Answers" "IntegerHouse$Answers" "toldHeight" "I", .lays "IntegerHouse$Answers" "IntegerHouse$Answers" "toldNumber" "J", .lays "IntegerHouse$Answers" "IntegerHouse$Answers" "coreSize" "I", .lays "IntegerHouse$Answers" "IntegerHouse$Answers" "limbsUsed" "I", .lays "IntegerHouse$Answers" "IntegerHouse$Answers" "powerLines" "I", .lays "IntegerHouse$Answers" "IntegerHouse$Answers" "powerBase" "J", .lays "IntegerHouse$Answers" "IntegerHouse$Answers" "powerVariables" "I"] := rfl
set_option maxRecDepth 100000 in
theorem t8_0 : ∀ w ∈ u_ws RX0 TX0 19, w ∈ allW := by
  rw [e8_0]
  exact (List.forall_mem_cons.mpr ⟨(allW_in (kT_2 _ (List.mem_of_getElem? (i := 177) rfl)) rfl), (List.forall_mem_cons.mpr ⟨(allW_in (kT_2 _ (List.mem_of_getElem? (i := 179) rfl)) rfl), (List.forall_mem_cons.mpr ⟨(allW_in (kT_2 _ (List.mem_of_getElem? (i := 181) rfl)) rfl), (List.forall_mem_cons.mpr ⟨(allW_in (kT_2 _ (List.mem_of_getElem? (i := 183) rfl)) rfl), (List.forall_mem_cons.mpr ⟨(allW_in (kT_2 _ (List.mem_of_getElem? (i := 185) rfl)) rfl), (List.forall_mem_cons.mpr ⟨(allW_in (kT_2 _ (List.mem_of_getElem? (i := 187) rfl)) rfl), (List.forall_mem_cons.mpr ⟨(allW_in (kT_2 _ (List.mem_of_getElem? (i := 189) rfl)) rfl), (List.forall_mem_cons.mpr ⟨(allW_in (kT_2 _ (List.mem_of_getElem? (i := 191) rfl)) rfl), (List.forall_mem_cons.mpr ⟨(allW_in (kT_2 _ (List.mem_of_getElem? (i := 193) rfl)) rfl), (List.forall_mem_cons.mpr ⟨(allW_in (kT_2 _ (List.mem_of_getElem? (i := 195) rfl)) rfl), (List.forall_mem_cons.mpr ⟨(allW_in (kT_2 _ (List.mem_of_getElem? (i := 197) rfl)) rfl), (List.forall_mem_cons.mpr ⟨(allW_in (kT_2 _ (List.mem_of_getElem? (i := 199) rfl)) rfl), (List.forall_mem_cons.mpr ⟨(allW_in (kT_2 _ (List.mem_of_getElem? (i := 201) rfl)) rfl), (List.forall_mem_cons.mpr ⟨(allW_in (kT_2 _ (List.mem_of_getElem? (i := 203) rfl)) rfl), (List.forall_mem_cons.mpr ⟨(allW_in (kT_2 _ (List.mem_of_getElem? (i := 205) rfl)) rfl), (List.forall_mem_cons.mpr ⟨(allW_in (kT_2 _ (List.mem_of_getElem? (i := 207) rfl)) rfl), (List.forall_mem_cons.mpr ⟨(allW_in (kT_2 _ (List.mem_of_getElem? (i := 209) rfl)) rfl), (List.forall_mem_cons.mpr ⟨(allW_in (kT_2 _ (List.mem_of_getElem? (i := 211) rfl)) rfl), (List.forall_mem_cons.mpr ⟨(allW_in (kT_2 _ (List.mem_of_getElem? (i := 213) rfl)) rfl), (fun _ h => absurd h List.not_mem_nil)⟩)⟩)⟩)⟩)⟩)⟩)⟩)⟩)⟩)⟩)⟩)⟩)⟩)⟩)⟩)⟩)⟩)⟩)⟩)
theorem ck_0 : ClsOK 0 := ⟨RX0, TX0, 19, tyX0, rfl, t8_0, tyX0_ok, nmX0, rfl⟩
set_option maxRecDepth 100000 in
theorem e8_1 : u_ws RX1 TX1 9 = [.laysFinal "IntegerHouse$Disk" "IntegerHouse$Disk" "blocks" "[B", .laysFinal "IntegerHouse$Disk" "IntegerHouse$Disk" "torn" "[Z", .laysFinal "IntegerHouse$Disk" "IntegerHouse$Disk" "image" "[B", .laysFinal "IntegerHouse$Disk" "IntegerHouse$Disk" "waits" "[B", .lays "IntegerHouse$Disk" "IntegerHouse$Disk" "waiting" "I", .lays "IntegerHouse$Disk" "IntegerHouse$Disk" "used" "I", .lays "IntegerHouse$Disk" "IntegerHouse$Disk" "cutAt" "I", .lays "IntegerHouse$Disk" "IntegerHouse$Disk" "tear" "I", .lays "IntegerHouse$Disk" "IntegerHouse$Disk" "down" "Z"] := rfl
set_option maxRecDepth 100000 in
theorem t8_1 : ∀ w ∈ u_ws RX1 TX1 9, w ∈ allW := by
  rw [e8_1]
  exact (List.forall_mem_cons.mpr ⟨(allW_in (kT_1 _ (List.mem_of_getElem? (i := 55) rfl)) rfl), (List.forall_mem_cons.mpr ⟨(allW_in (kT_1 _ (List.mem_of_getElem? (i := 57) rfl)) rfl), (List.forall_mem_cons.mpr ⟨(allW_in (kT_1 _ (List.mem_of_getElem? (i := 59) rfl)) rfl), (List.forall_mem_cons.mpr ⟨(allW_in (kT_1 _ (List.mem_of_getElem? (i := 61) rfl)) rfl), (List.forall_mem_cons.mpr ⟨(allW_in (kT_1 _ (List.mem_of_getElem? (i := 63) rfl)) rfl), (List.forall_mem_cons.mpr ⟨(allW_in (kT_1 _ (List.mem_of_getElem? (i := 65) rfl)) rfl), (List.forall_mem_cons.mpr ⟨(allW_in (kT_1 _ (List.mem_of_getElem? (i := 67) rfl)) rfl), (List.forall_mem_cons.mpr ⟨(allW_in (kT_1 _ (List.mem_of_getElem? (i := 69) rfl)) rfl), (List.forall_mem_cons.mpr ⟨(allW_in (kT_1 _ (List.mem_of_getElem? (i := 71) rfl)) rfl), (fun _ h => absurd h List.not_mem_nil)⟩)⟩)⟩)⟩)⟩)⟩)⟩)⟩)⟩)
theorem ck_1 : ClsOK 1 := ⟨RX1, TX1, 9, tyX1, rfl, t8_1, tyX1_ok, nmX1, rfl⟩
set_option maxRecDepth 100000 in
theorem e8_2 : u_ws RX2 TX2 16 = [.laysFinal "IntegerHouse$House" "IntegerHouse$House" "variableNames" "[J", .laysFinal "IntegerHouse$House" "IntegerHouse$House" "claimNames" "[J", .laysFinal "IntegerHouse$House" "IntegerHouse$House" "tokens" "[I", .laysFinal "IntegerHouse$House" "IntegerHouse$House" "steps" "[I", .laysFinal "IntegerHouse$House" "IntegerHouse$House" "code" "[I", .laysFinal "IntegerHouse$House" "IntegerHouse$House" "facts" "[I", .laysFinal "IntegerHouse$House" "IntegerHouse$House" "atoms" "[I", .laysFinal "IntegerHouse$House" "IntegerHouse$House" "pool" "[I", .laysFinal "IntegerHouse$House" "IntegerHouse$House" "marks" "[I", .laysFinal "IntegerHouse$House" "IntegerHouse$House" "shown" "[B", .lays "IntegerHouse$House" "IntegerHouse$House" "variables" "I", .lays "IntegerHouse$House" "IntegerHouse$House" "claims" "I", .lays "IntegerHouse$House" "IntegerHouse$House" "poolSize" "I", .lays "IntegerHouse$House" "IntegerHouse$House" "on" "I", .lays "IntegerHouse$House" "IntegerHouse$House" "layers" "I", .lays "IntegerHouse$House" "IntegerHouse$House" "shownSize" "I"] := rfl
set_option maxRecDepth 100000 in
theorem t8_2 : ∀ w ∈ u_ws RX2 TX2 16, w ∈ allW := by
  rw [e8_2]
  exact (List.forall_mem_cons.mpr ⟨(allW_in (kT_1 _ (List.mem_of_getElem? (i := 117) rfl)) rfl), (List.forall_mem_cons.mpr ⟨(allW_in (kT_1 _ (List.mem_of_getElem? (i := 119) rfl)) rfl), (List.forall_mem_cons.mpr ⟨(allW_in (kT_1 _ (List.mem_of_getElem? (i := 121) rfl)) rfl), (List.forall_mem_cons.mpr ⟨(allW_in (kT_1 _ (List.mem_of_getElem? (i := 123) rfl)) rfl), (List.forall_mem_cons.mpr ⟨(allW_in (kT_1 _ (List.mem_of_getElem? (i := 125) rfl)) rfl), (List.forall_mem_cons.mpr ⟨(allW_in (kT_1 _ (List.mem_of_getElem? (i := 127) rfl)) rfl), (List.forall_mem_cons.mpr ⟨(allW_in (kT_1 _ (List.mem_of_getElem? (i := 129) rfl)) rfl), (List.forall_mem_cons.mpr ⟨(allW_in (kT_1 _ (List.mem_of_getElem? (i := 131) rfl)) rfl), (List.forall_mem_cons.mpr ⟨(allW_in (kT_1 _ (List.mem_of_getElem? (i := 133) rfl)) rfl), (List.forall_mem_cons.mpr ⟨(allW_in (kT_1 _ (List.mem_of_getElem? (i := 135) rfl)) rfl), (List.forall_mem_cons.mpr ⟨(allW_in (kT_1 _ (List.mem_of_getElem? (i := 137) rfl)) rfl), (List.forall_mem_cons.mpr ⟨(allW_in (kT_1 _ (List.mem_of_getElem? (i := 139) rfl)) rfl), (List.forall_mem_cons.mpr ⟨(allW_in (kT_1 _ (List.mem_of_getElem? (i := 141) rfl)) rfl), (List.forall_mem_cons.mpr ⟨(allW_in (kT_1 _ (List.mem_of_getElem? (i := 143) rfl)) rfl), (List.forall_mem_cons.mpr ⟨(allW_in (kT_1 _ (List.mem_of_getElem? (i := 145) rfl)) rfl), (List.forall_mem_cons.mpr ⟨(allW_in (kT_1 _ (List.mem_of_getElem? (i := 147) rfl)) rfl), (fun _ h => absurd h List.not_mem_nil)⟩)⟩)⟩)⟩)⟩)⟩)⟩)⟩)⟩)⟩)⟩)⟩)⟩)⟩)⟩)⟩)
theorem ck_2 : ClsOK 2 := ⟨RX2, TX2, 16, tyX2, rfl, t8_2, tyX2_ok, nmX2, rfl⟩
set_option maxRecDepth 100000 in
theorem e8_3 : u_ws RX3 TX3 9 = [.laysFinal "IntegerHouse$Lexer" "IntegerHouse$Lexer" "words" "[J", .laysFinal "IntegerHouse$Lexer" "IntegerHouse$Lexer" "kinds" "[I", .laysFinal "IntegerHouse$Lexer" "IntegerHouse$Lexer" "spots" "[I", .laysFinal "IntegerHouse$Lexer" "IntegerHouse$Lexer" "numbers" "[I", .laysFinal "IntegerHouse$Lexer" "IntegerHouse$Lexer" "names" "[J", .lays "IntegerHouse$Lexer" "IntegerHouse$Lexer" "size" "I", .lays "IntegerHouse$Lexer" "IntegerHouse$Lexer" "source" "[B", .lays "IntegerHouse$Lexer" "IntegerHouse$Lexer" "begin" "I", .lays "IntegerHouse$Lexer" "IntegerHouse$Lexer" "stop" "I"] := rfl
set_option maxRecDepth 100000 in
theorem t8_3 : ∀ w ∈ u_ws RX3 TX3 9, w ∈ allW := by
  rw [e8_3]
  exact (List.forall_mem_cons.mpr ⟨(allW_in (kT_1 _ (List.mem_of_getElem? (i := 222) rfl)) rfl), (List.forall_mem_cons.mpr ⟨(allW_in (kT_1 _ (List.mem_of_getElem? (i := 224) rfl)) rfl), (List.forall_mem_cons.mpr ⟨(allW_in (kT_1 _ (List.mem_of_getElem? (i := 226) rfl)) rfl), (List.forall_mem_cons.mpr ⟨(allW_in (kT_1 _ (List.mem_of_getElem? (i := 228) rfl)) rfl), (List.forall_mem_cons.mpr ⟨(allW_in (kT_1 _ (List.mem_of_getElem? (i := 230) rfl)) rfl), (List.forall_mem_cons.mpr ⟨(allW_in (kT_1 _ (List.mem_of_getElem? (i := 232) rfl)) rfl), (List.forall_mem_cons.mpr ⟨(allW_in (kT_1 _ (List.mem_of_getElem? (i := 234) rfl)) rfl), (List.forall_mem_cons.mpr ⟨(allW_in (kT_1 _ (List.mem_of_getElem? (i := 236) rfl)) rfl), (List.forall_mem_cons.mpr ⟨(allW_in (kT_1 _ (List.mem_of_getElem? (i := 238) rfl)) rfl), (fun _ h => absurd h List.not_mem_nil)⟩)⟩)⟩)⟩)⟩)⟩)⟩)⟩)⟩)
theorem ck_3 : ClsOK 3 := ⟨RX3, TX3, 9, tyX3, rfl, t8_3, tyX3_ok, nmX3, rfl⟩
set_option maxRecDepth 100000 in
theorem e8_4 : u_ws RX4 TX4 10 = [.laysFinal "IntegerHouse$Maker" "IntegerHouse$Maker" "house" "LIntegerHouse$House;", .laysFinal "IntegerHouse$Maker" "IntegerHouse$Maker" "forms" "[J", .laysFinal "IntegerHouse$Maker" "IntegerHouse$Maker" "tops" "[I", .laysFinal "IntegerHouse$Maker" "IntegerHouse$Maker" "row" "[I", .laysFinal "IntegerHouse$Maker" "IntegerHouse$Maker" "goal" "[J", .lays "IntegerHouse$Maker" "IntegerHouse$Maker" "slot" "I", .lays "IntegerHouse$Maker" "IntegerHouse$Maker" "codeSize" "I", .lays "IntegerHouse$Maker" "IntegerHouse$Maker" "great" "Z", .lays "IntegerHouse$Maker" "IntegerHouse$Maker" "crowded" "Z", .lays "IntegerHouse$Maker" "IntegerHouse$Maker" "falsehood" "I"] := rfl
set_option maxRecDepth 100000 in
theorem t8_4 : ∀ w ∈ u_ws RX4 TX4 10, w ∈ allW := by
  rw [e8_4]
  exact (List.forall_mem_cons.mpr ⟨(allW_in (kT_2 _ (List.mem_of_getElem? (i := 18) rfl)) rfl), (List.forall_mem_cons.mpr ⟨(allW_in (kT_2 _ (List.mem_of_getElem? (i := 20) rfl)) rfl), (List.forall_mem_cons.mpr ⟨(allW_in (kT_2 _ (List.mem_of_getElem? (i := 22) rfl)) rfl), (List.forall_mem_cons.mpr ⟨(allW_in (kT_2 _ (List.mem_of_getElem? (i := 24) rfl)) rfl), (List.forall_mem_cons.mpr ⟨(allW_in (kT_2 _ (List.mem_of_getElem? (i := 26) rfl)) rfl), (List.forall_mem_cons.mpr ⟨(allW_in (kT_2 _ (List.mem_of_getElem? (i := 28) rfl)) rfl), (List.forall_mem_cons.mpr ⟨(allW_in (kT_2 _ (List.mem_of_getElem? (i := 30) rfl)) rfl), (List.forall_mem_cons.mpr ⟨(allW_in (kT_2 _ (List.mem_of_getElem? (i := 32) rfl)) rfl), (List.forall_mem_cons.mpr ⟨(allW_in (kT_2 _ (List.mem_of_getElem? (i := 34) rfl)) rfl), (List.forall_mem_cons.mpr ⟨(allW_in (kT_2 _ (List.mem_of_getElem? (i := 36) rfl)) rfl), (fun _ h => absurd h List.not_mem_nil)⟩)⟩)⟩)⟩)⟩)⟩)⟩)⟩)⟩)⟩)
theorem ck_4 : ClsOK 4 := ⟨RX4, TX4, 10, tyX4, rfl, t8_4, tyX4_ok, nmX4, rfl⟩
set_option maxRecDepth 100000 in
theorem e8_5 : u_ws RX5 TX5 11 = [.laysFinal "IntegerHouse$OwnForm" "IntegerHouse$OwnForm" "places" "LIntegerHouse$Places;", .laysFinal "IntegerHouse$OwnForm" "IntegerHouse$OwnForm" "ends" "[I", .laysFinal "IntegerHouse$OwnForm" "IntegerHouse$OwnForm" "sorts" "[I", .laysFinal "IntegerHouse$OwnForm" "IntegerHouse$OwnForm" "finer" "[I", .laysFinal "IntegerHouse$OwnForm" "IntegerHouse$OwnForm" "table" "[I", .laysFinal "IntegerHouse$OwnForm" "IntegerHouse$OwnForm" "states" "[I", .laysFinal "IntegerHouse$OwnForm" "IntegerHouse$OwnForm" "samples" "[I", .laysFinal "IntegerHouse$OwnForm" "IntegerHouse$OwnForm" "halves" "[I", .laysFinal "IntegerHouse$OwnForm" "IntegerHouse$OwnForm" "taken" "[I", .lays "IntegerHouse$OwnForm" "IntegerHouse$OwnForm" "toldStates" "I", .lays "IntegerHouse$OwnForm" "IntegerHouse$OwnForm" "toldLetters" "I"] := rfl
set_option maxRecDepth 100000 in
theorem t8_5 : ∀ w ∈ u_ws RX5 TX5 11, w ∈ allW := by
  rw [e8_5]
  exact (List.forall_mem_cons.mpr ⟨(allW_in (kT_2 _ (List.mem_of_getElem? (i := 234) rfl)) rfl), (List.forall_mem_cons.mpr ⟨(allW_in (kT_2 _ (List.mem_of_getElem? (i := 236) rfl)) rfl), (List.forall_mem_cons.mpr ⟨(allW_in (kT_2 _ (List.mem_of_getElem? (i := 238) rfl)) rfl), (List.forall_mem_cons.mpr ⟨(allW_in (kT_3 _ (List.mem_of_getElem? (i := 0) rfl)) rfl), (List.forall_mem_cons.mpr ⟨(allW_in (kT_3 _ (List.mem_of_getElem? (i := 2) rfl)) rfl), (List.forall_mem_cons.mpr ⟨(allW_in (kT_3 _ (List.mem_of_getElem? (i := 4) rfl)) rfl), (List.forall_mem_cons.mpr ⟨(allW_in (kT_3 _ (List.mem_of_getElem? (i := 6) rfl)) rfl), (List.forall_mem_cons.mpr ⟨(allW_in (kT_3 _ (List.mem_of_getElem? (i := 8) rfl)) rfl), (List.forall_mem_cons.mpr ⟨(allW_in (kT_3 _ (List.mem_of_getElem? (i := 10) rfl)) rfl), (List.forall_mem_cons.mpr ⟨(allW_in (kT_3 _ (List.mem_of_getElem? (i := 12) rfl)) rfl), (List.forall_mem_cons.mpr ⟨(allW_in (kT_3 _ (List.mem_of_getElem? (i := 14) rfl)) rfl), (fun _ h => absurd h List.not_mem_nil)⟩)⟩)⟩)⟩)⟩)⟩)⟩)⟩)⟩)⟩)⟩)
theorem ck_5 : ClsOK 5 := ⟨RX5, TX5, 11, tyX5, rfl, t8_5, tyX5_ok, nmX5, rfl⟩
set_option maxRecDepth 100000 in
theorem e8_6 : u_ws RX6 TX6 14 = [.laysFinal "IntegerHouse$Places" "IntegerHouse$Places" "house" "LIntegerHouse$House;", .laysFinal "IntegerHouse$Places" "IntegerHouse$Places" "work" "[I", .laysFinal "IntegerHouse$Places" "IntegerHouse$Places" "workOf" "[I", .laysFinal "IntegerHouse$Places" "IntegerHouse$Places" "isLine" "[Z", .laysFinal "IntegerHouse$Places" "IntegerHouse$Places" "sums" "[I", .laysFinal "IntegerHouse$Places" "IntegerHouse$Places" "fresh" "[I", .laysFinal "IntegerHouse$Places" "IntegerHouse$Places" "stands" "[I", .laysFinal "IntegerHouse$Places" "IntegerHouse$Places" "next" "[I", .laysFinal "IntegerHouse$Places" "IntegerHouse$Places" "so" "[I", .laysFinal "IntegerHouse$Places" "IntegerHouse$Places" "table" "[I", .lays "IntegerHouse$Places" "IntegerHouse$Places" "atoms" "I", .lays "IntegerHouse$Places" "IntegerHouse$Places" "needed" "I", .lays "IntegerHouse$Places" "IntegerHouse$Places" "letters" "I", .lays "IntegerHouse$Places" "IntegerHouse$Places" "size" "I"] := rfl
set_option maxRecDepth 100000 in
theorem t8_6 : ∀ w ∈ u_ws RX6 TX6 14, w ∈ allW := by
  rw [e8_6]
  exact (List.forall_mem_cons.mpr ⟨(allW_in (kT_2 _ (List.mem_of_getElem? (i := 121) rfl)) rfl), (List.forall_mem_cons.mpr ⟨(allW_in (kT_2 _ (List.mem_of_getElem? (i := 123) rfl)) rfl), (List.forall_mem_cons.mpr ⟨(allW_in (kT_2 _ (List.mem_of_getElem? (i := 125) rfl)) rfl), (List.forall_mem_cons.mpr ⟨(allW_in (kT_2 _ (List.mem_of_getElem? (i := 127) rfl)) rfl), (List.forall_mem_cons.mpr ⟨(allW_in (kT_2 _ (List.mem_of_getElem? (i := 129) rfl)) rfl), (List.forall_mem_cons.mpr ⟨(allW_in (kT_2 _ (List.mem_of_getElem? (i := 131) rfl)) rfl), (List.forall_mem_cons.mpr ⟨(allW_in (kT_2 _ (List.mem_of_getElem? (i := 133) rfl)) rfl), (List.forall_mem_cons.mpr ⟨(allW_in (kT_2 _ (List.mem_of_getElem? (i := 135) rfl)) rfl), (List.forall_mem_cons.mpr ⟨(allW_in (kT_2 _ (List.mem_of_getElem? (i := 137) rfl)) rfl), (List.forall_mem_cons.mpr ⟨(allW_in (kT_2 _ (List.mem_of_getElem? (i := 139) rfl)) rfl), (List.forall_mem_cons.mpr ⟨(allW_in (kT_2 _ (List.mem_of_getElem? (i := 141) rfl)) rfl), (List.forall_mem_cons.mpr ⟨(allW_in (kT_2 _ (List.mem_of_getElem? (i := 143) rfl)) rfl), (List.forall_mem_cons.mpr ⟨(allW_in (kT_2 _ (List.mem_of_getElem? (i := 145) rfl)) rfl), (List.forall_mem_cons.mpr ⟨(allW_in (kT_2 _ (List.mem_of_getElem? (i := 147) rfl)) rfl), (fun _ h => absurd h List.not_mem_nil)⟩)⟩)⟩)⟩)⟩)⟩)⟩)⟩)⟩)⟩)⟩)⟩)⟩)⟩)
theorem ck_6 : ClsOK 6 := ⟨RX6, TX6, 14, tyX6, rfl, t8_6, tyX6_ok, nmX6, rfl⟩
set_option maxRecDepth 100000 in
theorem e8_7 : u_ws RX7 TX7 17 = [.laysFinal "IntegerHouse$Prover" "IntegerHouse$Prover" "lexer" "LIntegerHouse$Lexer;", .laysFinal "IntegerHouse$Prover" "IntegerHouse$Prover" "house" "LIntegerHouse$House;", .laysFinal "IntegerHouse$Prover" "IntegerHouse$Prover" "lines" "[J", .laysFinal "IntegerHouse$Prover" "IntegerHouse$Prover" "known" "[Z", .laysFinal "IntegerHouse$Prover" "IntegerHouse$Prover" "row" "[J", .laysFinal "IntegerHouse$Prover" "IntegerHouse$Prover" "numbers" "[I", .laysFinal "IntegerHouse$Prover" "IntegerHouse$Prover" "caseVariable" "[I", .laysFinal "IntegerHouse$Prover" "IntegerHouse$Prover" "caseNumber" "[I", .laysFinal "IntegerHouse$Prover" "IntegerHouse$Prover" "partBegins" "[I", .laysFinal "IntegerHouse$Prover" "IntegerHouse$Prover" "isSecond" "[Z", .lays "IntegerHouse$Prover" "IntegerHouse$Prover" "size" "I", .lays "IntegerHouse$Prover" "IntegerHouse$Prover" "open" "I", .lays "IntegerHouse$Prover" "IntegerHouse$Prover" "faultKind" "I", .lays "IntegerHouse$Prover" "IntegerHouse$Prover" "faultPlace" "I", .lays "IntegerHouse$Prover" "IntegerHouse$Prover" "at" "I", .lays "IntegerHouse$Prover" "IntegerHouse$Prover" "given" "I", .lays "IntegerHouse$Prover" "IntegerHouse$Prover" "name" "J"] := rfl
set_option maxRecDepth 100000 in
theorem t8_7 : ∀ w ∈ u_ws RX7 TX7 17, w ∈ allW := by
  rw [e8_7]
  exact (List.forall_mem_cons.mpr ⟨(allW_in (kT_3 _ (List.mem_of_getElem? (i := 136) rfl)) rfl), (List.forall_mem_cons.mpr ⟨(allW_in (kT_3 _ (List.mem_of_getElem? (i := 138) rfl)) rfl), (List.forall_mem_cons.mpr ⟨(allW_in (kT_3 _ (List.mem_of_getElem? (i := 140) rfl)) rfl), (List.forall_mem_cons.mpr ⟨(allW_in (kT_3 _ (List.mem_of_getElem? (i := 142) rfl)) rfl), (List.forall_mem_cons.mpr ⟨(allW_in (kT_3 _ (List.mem_of_getElem? (i := 144) rfl)) rfl), (List.forall_mem_cons.mpr ⟨(allW_in (kT_3 _ (List.mem_of_getElem? (i := 146) rfl)) rfl), (List.forall_mem_cons.mpr ⟨(allW_in (kT_3 _ (List.mem_of_getElem? (i := 148) rfl)) rfl), (List.forall_mem_cons.mpr ⟨(allW_in (kT_3 _ (List.mem_of_getElem? (i := 150) rfl)) rfl), (List.forall_mem_cons.mpr ⟨(allW_in (kT_3 _ (List.mem_of_getElem? (i := 152) rfl)) rfl), (List.forall_mem_cons.mpr ⟨(allW_in (kT_3 _ (List.mem_of_getElem? (i := 154) rfl)) rfl), (List.forall_mem_cons.mpr ⟨(allW_in (kT_3 _ (List.mem_of_getElem? (i := 156) rfl)) rfl), (List.forall_mem_cons.mpr ⟨(allW_in (kT_3 _ (List.mem_of_getElem? (i := 158) rfl)) rfl), (List.forall_mem_cons.mpr ⟨(allW_in (kT_3 _ (List.mem_of_getElem? (i := 160) rfl)) rfl), (List.forall_mem_cons.mpr ⟨(allW_in (kT_3 _ (List.mem_of_getElem? (i := 162) rfl)) rfl), (List.forall_mem_cons.mpr ⟨(allW_in (kT_3 _ (List.mem_of_getElem? (i := 164) rfl)) rfl), (List.forall_mem_cons.mpr ⟨(allW_in (kT_3 _ (List.mem_of_getElem? (i := 166) rfl)) rfl), (List.forall_mem_cons.mpr ⟨(allW_in (kT_3 _ (List.mem_of_getElem? (i := 168) rfl)) rfl), (fun _ h => absurd h List.not_mem_nil)⟩)⟩)⟩)⟩)⟩)⟩)⟩)⟩)⟩)⟩)⟩)⟩)⟩)⟩)⟩)⟩)⟩)
theorem ck_7 : ClsOK 7 := ⟨RX7, TX7, 17, tyX7, rfl, t8_7, tyX7_ok, nmX7, rfl⟩
set_option maxRecDepth 100000 in
theorem e8_8 : u_ws RX8 TX8 15 = [.laysFinal "IntegerHouse$Reader" "IntegerHouse$Reader" "lexer" "LIntegerHouse$Lexer;", .laysFinal "IntegerHouse$Reader" "IntegerHouse$Reader" "house" "LIntegerHouse$House;", .laysFinal "IntegerHouse$Reader" "IntegerHouse$Reader" "maker" "LIntegerHouse$Maker;", .lays "IntegerHouse$Reader" "IntegerHouse$Reader" "faultKind" "I", .lays "IntegerHouse$Reader" "IntegerHouse$Reader" "faultPlace" "I", .lays "IntegerHouse$Reader" "IntegerHouse$Reader" "hasFormula" "Z", .lays "IntegerHouse$Reader" "IntegerHouse$Reader" "at" "I", .lays "IntegerHouse$Reader" "IntegerHouse$Reader" "kind" "I", .lays "IntegerHouse$Reader" "IntegerHouse$Reader" "place" "I", .lays "IntegerHouse$Reader" "IntegerHouse$Reader" "claimName" "J", .lays "IntegerHouse$Reader" "IntegerHouse$Reader" "claimPlace" "I", .lays "IntegerHouse$Reader" "IntegerHouse$Reader" "slot" "I", .lays "IntegerHouse$Reader" "IntegerHouse$Reader" "tokens" "I", .lays "IntegerHouse$Reader" "IntegerHouse$Reader" "steps" "I", .lays "IntegerHouse$Reader" "IntegerHouse$Reader" "open" "I"] := rfl
set_option maxRecDepth 100000 in
theorem t8_8 : ∀ w ∈ u_ws RX8 TX8 15, w ∈ allW := by
  rw [e8_8]
  exact (List.forall_mem_cons.mpr ⟨(allW_in (kT_2 _ (List.mem_of_getElem? (i := 63) rfl)) rfl), (List.forall_mem_cons.mpr ⟨(allW_in (kT_2 _ (List.mem_of_getElem? (i := 65) rfl)) rfl), (List.forall_mem_cons.mpr ⟨(allW_in (kT_2 _ (List.mem_of_getElem? (i := 67) rfl)) rfl), (List.forall_mem_cons.mpr ⟨(allW_in (kT_2 _ (List.mem_of_getElem? (i := 69) rfl)) rfl), (List.forall_mem_cons.mpr ⟨(allW_in (kT_2 _ (List.mem_of_getElem? (i := 71) rfl)) rfl), (List.forall_mem_cons.mpr ⟨(allW_in (kT_2 _ (List.mem_of_getElem? (i := 73) rfl)) rfl), (List.forall_mem_cons.mpr ⟨(allW_in (kT_2 _ (List.mem_of_getElem? (i := 75) rfl)) rfl), (List.forall_mem_cons.mpr ⟨(allW_in (kT_2 _ (List.mem_of_getElem? (i := 77) rfl)) rfl), (List.forall_mem_cons.mpr ⟨(allW_in (kT_2 _ (List.mem_of_getElem? (i := 79) rfl)) rfl), (List.forall_mem_cons.mpr ⟨(allW_in (kT_2 _ (List.mem_of_getElem? (i := 81) rfl)) rfl), (List.forall_mem_cons.mpr ⟨(allW_in (kT_2 _ (List.mem_of_getElem? (i := 83) rfl)) rfl), (List.forall_mem_cons.mpr ⟨(allW_in (kT_2 _ (List.mem_of_getElem? (i := 85) rfl)) rfl), (List.forall_mem_cons.mpr ⟨(allW_in (kT_2 _ (List.mem_of_getElem? (i := 87) rfl)) rfl), (List.forall_mem_cons.mpr ⟨(allW_in (kT_2 _ (List.mem_of_getElem? (i := 89) rfl)) rfl), (List.forall_mem_cons.mpr ⟨(allW_in (kT_2 _ (List.mem_of_getElem? (i := 91) rfl)) rfl), (fun _ h => absurd h List.not_mem_nil)⟩)⟩)⟩)⟩)⟩)⟩)⟩)⟩)⟩)⟩)⟩)⟩)⟩)⟩)⟩)
theorem ck_8 : ClsOK 8 := ⟨RX8, TX8, 15, tyX8, rfl, t8_8, tyX8_ok, nmX8, rfl⟩
set_option maxRecDepth 100000 in
theorem e8_9 : u_ws RX9 TX9 14 = [.laysFinal "IntegerHouse$Relaxer" "IntegerHouse$Relaxer" "rows" "[J", .laysFinal "IntegerHouse$Relaxer" "IntegerHouse$Relaxer" "goal" "[J", .laysFinal "IntegerHouse$Relaxer" "IntegerHouse$Relaxer" "basis" "[I", .laysFinal "IntegerHouse$Relaxer" "IntegerHouse$Relaxer" "columns" "[J", .laysFinal "IntegerHouse$Relaxer" "IntegerHouse$Relaxer" "mix" "[J", .laysFinal "IntegerHouse$Relaxer" "IntegerHouse$Relaxer" "point" "[J", .laysFinal "IntegerHouse$Relaxer" "IntegerHouse$Relaxer" "endless" "[J", .laysFinal "IntegerHouse$Relaxer" "IntegerHouse$Relaxer" "fractions" "[J", .lays "IntegerHouse$Relaxer" "IntegerHouse$Relaxer" "goalNumber" "J", .lays "IntegerHouse$Relaxer" "IntegerHouse$Relaxer" "below" "J", .lays "IntegerHouse$Relaxer" "IntegerHouse$Relaxer" "pointBelow" "J", .lays "IntegerHouse$Relaxer" "IntegerHouse$Relaxer" "size" "I", .lays "IntegerHouse$Relaxer" "IntegerHouse$Relaxer" "variables" "I", .lays "IntegerHouse$Relaxer" "IntegerHouse$Relaxer" "toldSize" "I"] := rfl
set_option maxRecDepth 100000 in
theorem t8_9 : ∀ w ∈ u_ws RX9 TX9 14, w ∈ allW := by
  rw [e8_9]
  exact (List.forall_mem_cons.mpr ⟨(allW_in (kT_3 _ (List.mem_of_getElem? (i := 39) rfl)) rfl), (List.forall_mem_cons.mpr ⟨(allW_in (kT_3 _ (List.mem_of_getElem? (i := 41) rfl)) rfl), (List.forall_mem_cons.mpr ⟨(allW_in (kT_3 _ (List.mem_of_getElem? (i := 43) rfl)) rfl), (List.forall_mem_cons.mpr ⟨(allW_in (kT_3 _ (List.mem_of_getElem? (i := 45) rfl)) rfl), (List.forall_mem_cons.mpr ⟨(allW_in (kT_3 _ (List.mem_of_getElem? (i := 47) rfl)) rfl), (List.forall_mem_cons.mpr ⟨(allW_in (kT_3 _ (List.mem_of_getElem? (i := 49) rfl)) rfl), (List.forall_mem_cons.mpr ⟨(allW_in (kT_3 _ (List.mem_of_getElem? (i := 51) rfl)) rfl), (List.forall_mem_cons.mpr ⟨(allW_in (kT_3 _ (List.mem_of_getElem? (i := 53) rfl)) rfl), (List.forall_mem_cons.mpr ⟨(allW_in (kT_3 _ (List.mem_of_getElem? (i := 55) rfl)) rfl), (List.forall_mem_cons.mpr ⟨(allW_in (kT_3 _ (List.mem_of_getElem? (i := 57) rfl)) rfl), (List.forall_mem_cons.mpr ⟨(allW_in (kT_3 _ (List.mem_of_getElem? (i := 59) rfl)) rfl), (List.forall_mem_cons.mpr ⟨(allW_in (kT_3 _ (List.mem_of_getElem? (i := 61) rfl)) rfl), (List.forall_mem_cons.mpr ⟨(allW_in (kT_3 _ (List.mem_of_getElem? (i := 63) rfl)) rfl), (List.forall_mem_cons.mpr ⟨(allW_in (kT_3 _ (List.mem_of_getElem? (i := 65) rfl)) rfl), (fun _ h => absurd h List.not_mem_nil)⟩)⟩)⟩)⟩)⟩)⟩)⟩)⟩)⟩)⟩)⟩)⟩)⟩)⟩)
theorem ck_9 : ClsOK 9 := ⟨RX9, TX9, 14, tyX9, rfl, t8_9, tyX9_ok, nmX9, rfl⟩
set_option maxRecDepth 100000 in
theorem e8_10 : u_ws RX10 TX10 12 = [.laysFinal "IntegerHouse$Searcher" "IntegerHouse$Searcher" "relaxer" "LIntegerHouse$Relaxer;", .laysFinal "IntegerHouse$Searcher" "IntegerHouse$Searcher" "rowsBefore" "[I", .laysFinal "IntegerHouse$Searcher" "IntegerHouse$Searcher" "variableOf" "[I", .laysFinal "IntegerHouse$Searcher" "IntegerHouse$Searcher" "signOf" "[I", .laysFinal "IntegerHouse$Searcher" "IntegerHouse$Searcher" "limitOf" "[J", .laysFinal "IntegerHouse$Searcher" "IntegerHouse$Searcher" "values" "[J", .lays "IntegerHouse$Searcher" "IntegerHouse$Searcher" "pile" "I", .lays "IntegerHouse$Searcher" "IntegerHouse$Searcher" "taken" "I", .lays "IntegerHouse$Searcher" "IntegerHouse$Searcher" "cuts" "I", .lays "IntegerHouse$Searcher" "IntegerHouse$Searcher" "bestValue" "J", .lays "IntegerHouse$Searcher" "IntegerHouse$Searcher" "hasBest" "Z", .lays "IntegerHouse$Searcher" "IntegerHouse$Searcher" "told" "Z"] := rfl
set_option maxRecDepth 100000 in
theorem t8_10 : ∀ w ∈ u_ws RX10 TX10 12, w ∈ allW := by
  rw [e8_10]
  exact (List.forall_mem_cons.mpr ⟨(allW_in (kT_3 _ (List.mem_of_getElem? (i := 86) rfl)) rfl), (List.forall_mem_cons.mpr ⟨(allW_in (kT_3 _ (List.mem_of_getElem? (i := 88) rfl)) rfl), (List.forall_mem_cons.mpr ⟨(allW_in (kT_3 _ (List.mem_of_getElem? (i := 90) rfl)) rfl), (List.forall_mem_cons.mpr ⟨(allW_in (kT_3 _ (List.mem_of_getElem? (i := 92) rfl)) rfl), (List.forall_mem_cons.mpr ⟨(allW_in (kT_3 _ (List.mem_of_getElem? (i := 94) rfl)) rfl), (List.forall_mem_cons.mpr ⟨(allW_in (kT_3 _ (List.mem_of_getElem? (i := 96) rfl)) rfl), (List.forall_mem_cons.mpr ⟨(allW_in (kT_3 _ (List.mem_of_getElem? (i := 98) rfl)) rfl), (List.forall_mem_cons.mpr ⟨(allW_in (kT_3 _ (List.mem_of_getElem? (i := 100) rfl)) rfl), (List.forall_mem_cons.mpr ⟨(allW_in (kT_3 _ (List.mem_of_getElem? (i := 102) rfl)) rfl), (List.forall_mem_cons.mpr ⟨(allW_in (kT_3 _ (List.mem_of_getElem? (i := 104) rfl)) rfl), (List.forall_mem_cons.mpr ⟨(allW_in (kT_3 _ (List.mem_of_getElem? (i := 106) rfl)) rfl), (List.forall_mem_cons.mpr ⟨(allW_in (kT_3 _ (List.mem_of_getElem? (i := 108) rfl)) rfl), (fun _ h => absurd h List.not_mem_nil)⟩)⟩)⟩)⟩)⟩)⟩)⟩)⟩)⟩)⟩)⟩)⟩)
theorem ck_10 : ClsOK 10 := ⟨RX10, TX10, 12, tyX10, rfl, t8_10, tyX10_ok, nmX10, rfl⟩
set_option maxRecDepth 100000 in
theorem e8_11 : u_ws RX11 TX11 15 = [.laysFinal "IntegerHouse" "IntegerHouse" "tape" "[B", .laysFinal "IntegerHouse" "IntegerHouse" "disk" "LIntegerHouse$Disk;", .laysFinal "IntegerHouse" "IntegerHouse" "house" "LIntegerHouse$House;", .laysFinal "IntegerHouse" "IntegerHouse" "lexer" "LIntegerHouse$Lexer;", .laysFinal "IntegerHouse" "IntegerHouse" "maker" "LIntegerHouse$Maker;", .laysFinal "IntegerHouse" "IntegerHouse" "reader" "LIntegerHouse$Reader;", .laysFinal "IntegerHouse" "IntegerHouse" "places" "LIntegerHouse$Places;", .laysFinal "IntegerHouse" "IntegerHouse" "answers" "LIntegerHouse$Answers;", .laysFinal "IntegerHouse" "IntegerHouse" "ownForm" "LIntegerHouse$OwnForm;", .laysFinal "IntegerHouse" "IntegerHouse" "relaxer" "LIntegerHouse$Relaxer;", .laysFinal "IntegerHouse" "IntegerHouse" "searcher" "LIntegerHouse$Searcher;", .laysFinal "IntegerHouse" "IntegerHouse" "prover" "LIntegerHouse$Prover;", .lays "IntegerHouse" "IntegerHouse" "tapeLength" "I", .lays "IntegerHouse" "IntegerHouse" "latestFault" "I", .lays "IntegerHouse" "IntegerHouse" "acts" "I"] := rfl
set_option maxRecDepth 100000 in
theorem t8_11 : ∀ w ∈ u_ws RX11 TX11 15, w ∈ allW := by
  rw [e8_11]
  exact (List.forall_mem_cons.mpr ⟨(allW_in (kT_3 _ (List.mem_of_getElem? (i := 186) rfl)) rfl), (List.forall_mem_cons.mpr ⟨(allW_in (kT_3 _ (List.mem_of_getElem? (i := 188) rfl)) rfl), (List.forall_mem_cons.mpr ⟨(allW_in (kT_3 _ (List.mem_of_getElem? (i := 190) rfl)) rfl), (List.forall_mem_cons.mpr ⟨(allW_in (kT_3 _ (List.mem_of_getElem? (i := 192) rfl)) rfl), (List.forall_mem_cons.mpr ⟨(allW_in (kT_3 _ (List.mem_of_getElem? (i := 194) rfl)) rfl), (List.forall_mem_cons.mpr ⟨(allW_in (kT_3 _ (List.mem_of_getElem? (i := 196) rfl)) rfl), (List.forall_mem_cons.mpr ⟨(allW_in (kT_3 _ (List.mem_of_getElem? (i := 198) rfl)) rfl), (List.forall_mem_cons.mpr ⟨(allW_in (kT_3 _ (List.mem_of_getElem? (i := 200) rfl)) rfl), (List.forall_mem_cons.mpr ⟨(allW_in (kT_3 _ (List.mem_of_getElem? (i := 202) rfl)) rfl), (List.forall_mem_cons.mpr ⟨(allW_in (kT_3 _ (List.mem_of_getElem? (i := 204) rfl)) rfl), (List.forall_mem_cons.mpr ⟨(allW_in (kT_3 _ (List.mem_of_getElem? (i := 206) rfl)) rfl), (List.forall_mem_cons.mpr ⟨(allW_in (kT_3 _ (List.mem_of_getElem? (i := 208) rfl)) rfl), (List.forall_mem_cons.mpr ⟨(allW_in (kT_3 _ (List.mem_of_getElem? (i := 210) rfl)) rfl), (List.forall_mem_cons.mpr ⟨(allW_in (kT_3 _ (List.mem_of_getElem? (i := 212) rfl)) rfl), (List.forall_mem_cons.mpr ⟨(allW_in (kT_3 _ (List.mem_of_getElem? (i := 214) rfl)) rfl), (fun _ h => absurd h List.not_mem_nil)⟩)⟩)⟩)⟩)⟩)⟩)⟩)⟩)⟩)⟩)⟩)⟩)⟩)⟩)⟩)
theorem ck_11 : ClsOK 11 := ⟨RX11, TX11, 15, tyX11, rfl, t8_11, tyX11_ok, nmX11, rfl⟩
set_option maxRecDepth 100000 in
theorem e8_12 : u_ws RX12 TX12 195 = [.lays "IntegerHouseModel" "IntegerHouseModel" "thrown" "I", .laysFinal "IntegerHouseModel" "IntegerHouseModel" "tape" "[B", .lays "IntegerHouseModel" "IntegerHouseModel" "taped" "I", .laysFinal "IntegerHouseModel" "IntegerHouseModel" "disk" "[B", .lays "IntegerHouseModel" "IntegerHouseModel" "used" "I", .lays "IntegerHouseModel" "IntegerHouseModel" "down" "Z", .lays "IntegerHouseModel" "IntegerHouseModel" "cutAt" "I", .lays "IntegerHouseModel" "IntegerHouseModel" "tear" "I", .laysFinal "IntegerHouseModel" "IntegerHouseModel" "waits" "[B", .lays "IntegerHouseModel" "IntegerHouseModel" "waitBytes" "I", .laysFinal "IntegerHouseModel" "IntegerHouseModel" "arg" "[I", .laysFinal "IntegerHouseModel" "IntegerHouseModel" "doc" "[B", .lays "IntegerHouseModel" "IntegerHouseModel" "docSize" "I", .lays "IntegerHouseModel" "IntegerHouseModel" "replay" "Z", .lays "IntegerHouseModel" "IntegerHouseModel" "refused" "Z", .lays "IntegerHouseModel" "IntegerHouseModel" "number" "I", .lays "IntegerHouseModel" "IntegerHouseModel" "done" "I", .laysFinal "IntegerHouseModel" "IntegerHouseModel" "torn" "[Z", .laysFinal "IntegerHouseModel" "IntegerHouseModel" "image" "[B", .laysFinal "IntegerHouseModel" "IntegerHouseModel" "sync" "[B", .lays "IntegerHouseModel" "IntegerHouseModel" "syncSize" "I", .lays "IntegerHouseModel" "IntegerHouseModel" "syncAt" "I", .laysFinal "IntegerHouseModel" "IntegerHouseModel" "words" "[Ljava/lang/String;", .laysFinal "IntegerHouseModel" "IntegerHouseModel" "tokenAt" "[I", .laysFinal "IntegerHouseModel" "IntegerHouseModel" "tokenSize" "[I", .laysFinal "IntegerHouseModel" "IntegerHouseModel" "tokenKind" "[I", .laysFinal "IntegerHouseModel" "IntegerHouseModel" "tokenValue" "[I", .lays "IntegerHouseModel" "IntegerHouseModel" "tokens" "I", .lays "IntegerHouseModel" "IntegerHouseModel" "now" "I", .lays "IntegerHouseModel" "IntegerHouseModel" "faultKind" "I", .lays "IntegerHouseModel" "IntegerHouseModel" "faultPlace" "I", .lays "IntegerHouseModel" "IntegerHouseModel" "faulty" "Z", .lays "IntegerHouseModel" "IntegerHouseModel" "variables" "I", .lays "IntegerHouseModel" "IntegerHouseModel" "claims" "I", .laysFinal "IntegerHouseModel" "IntegerHouseModel" "nameText" "[B", .laysFinal "IntegerHouseModel" "IntegerHouseModel" "nameSize" "[I", .lays "IntegerHouseModel" "IntegerHouseModel" "knownVariables" "I", .lays "IntegerHouseModel" "IntegerHouseModel" "knownClaims" "I", .laysFinal "IntegerHouseModel" "IntegerHouseModel" "textBytes" "[B", .laysFinal "IntegerHouseModel" "IntegerHouseModel" "textSize" "[I", .laysFinal "IntegerHouseModel" "IntegerHouseModel" "textCount" "[I", .laysFinal "IntegerHouseModel" "IntegerHouseModel" "nodeKind" "[I", .laysFinal "IntegerHouseModel" "IntegerHouseModel" "nodeA" "[I", .laysFinal "IntegerHouseModel" "IntegerHouseModel" "nodeB" "[I", .laysFinal "IntegerHouseModel" "IntegerHouseModel" "nodeNext" "[I", .laysFinal "IntegerHouseModel" "IntegerHouseModel" "nodeCount" "[I", .laysFinal "IntegerHouseModel" "IntegerHouseModel" "leafOp" "[I", .laysFinal "IntegerHouseModel" "IntegerHouseModel" "leafNumber" "[I", .laysFinal "IntegerHouseModel" "IntegerHouseModel" "leafLeft" "[I", .laysFinal "IntegerHouseModel" "IntegerHouseModel" "leafRight" "[I", .laysFinal "IntegerHouseModel" "IntegerHouseModel" "leafFrom" "[I", .laysFinal "IntegerHouseModel" "IntegerHouseModel" "leafTo" "[I", .laysFinal "IntegerHouseModel" "IntegerHouseModel" "leafTerms" "[I", .laysFinal "IntegerHouseModel" "IntegerHouseModel" "leafTermsTo" "[I", .laysFinal "IntegerHouseModel" "IntegerHouseModel" "leafCase" "[I", .laysFinal "IntegerHouseModel" "IntegerHouseModel" "leafCases" "[I", .laysFinal "IntegerHouseModel" "IntegerHouseModel" "leafCount" "[I", .laysFinal "IntegerHouseModel" "IntegerHouseModel" "termKind" "[I", .laysFinal "IntegerHouseModel" "IntegerHouseModel" "termA" "[I", .laysFinal "IntegerHouseModel" "IntegerHouseModel" "termB" "[I", .laysFinal "IntegerHouseModel" "IntegerHouseModel" "termCount" "[I", .laysFinal "IntegerHouseModel" "IntegerHouseModel" "partSign" "[I", .laysFinal "IntegerHouseModel" "IntegerHouseModel" "partTimes" "[J", .laysFinal "IntegerHouseModel" "IntegerHouseModel" "partOf" "[I", .laysFinal "IntegerHouseModel" "IntegerHouseModel" "partNext" "[I", .laysFinal "IntegerHouseModel" "IntegerHouseModel" "partCount" "[I", .lays "IntegerHouseModel" "IntegerHouseModel" "slot" "I", .lays "IntegerHouseModel" "IntegerHouseModel" "open" "I", .laysFinal "IntegerHouseModel" "IntegerHouseModel" "rootOf" "[I", .laysFinal "IntegerHouseModel" "IntegerHouseModel" "openJoin" "[I", .laysFinal "IntegerHouseModel" "IntegerHouseModel" "openLeft" "[I", .laysFinal "IntegerHouseModel" "IntegerHouseModel" "openOr" "[I", .laysFinal "IntegerHouseModel" "IntegerHouseModel" "openOrLast" "[I", .laysFinal "IntegerHouseModel" "IntegerHouseModel" "openAnd" "[I", .laysFinal "IntegerHouseModel" "IntegerHouseModel" "openAndLast" "[I", .laysFinal "IntegerHouseModel" "IntegerHouseModel" "openNots" "[I", .lays "IntegerHouseModel" "IntegerHouseModel" "formulas" "I", .laysFinal "IntegerHouseModel" "IntegerHouseModel" "inKind" "[I", .laysFinal "IntegerHouseModel" "IntegerHouseModel" "inFirst" "[I", .laysFinal "IntegerHouseModel" "IntegerHouseModel" "inLast" "[I", .laysFinal "IntegerHouseModel" "IntegerHouseModel" "inSign" "[I", .laysFinal "IntegerHouseModel" "IntegerHouseModel" "inTimes" "[J", .laysFinal "IntegerHouseModel" "IntegerHouseModel" "inOne" "[I", .lays "IntegerHouseModel" "IntegerHouseModel" "terms" "I", .lays "IntegerHouseModel" "IntegerHouseModel" "state" "I", .lays "IntegerHouseModel" "IntegerHouseModel" "current" "I", .laysFinal "IntegerHouseModel" "IntegerHouseModel" "atomF" "[I", .laysFinal "IntegerHouseModel" "IntegerHouseModel" "atomC" "[I", .laysFinal "IntegerHouseModel" "IntegerHouseModel" "atomN" "[I", .laysFinal "IntegerHouseModel" "IntegerHouseModel" "atomCount" "[I", .laysFinal "IntegerHouseModel" "IntegerHouseModel" "caseLit" "[I", .laysFinal "IntegerHouseModel" "IntegerHouseModel" "caseCount" "[I", .laysFinal "IntegerHouseModel" "IntegerHouseModel" "isPlain" "[Z", .laysFinal "IntegerHouseModel" "IntegerHouseModel" "falseAt" "[I", .lays "IntegerHouseModel" "IntegerHouseModel" "great" "Z", .lays "IntegerHouseModel" "IntegerHouseModel" "crowded" "Z", .laysFinal "IntegerHouseModel" "IntegerHouseModel" "formF" "[J", .laysFinal "IntegerHouseModel" "IntegerHouseModel" "formC" "[J", .laysFinal "IntegerHouseModel" "IntegerHouseModel" "formD" "[J", .laysFinal "IntegerHouseModel" "IntegerHouseModel" "chosen" "[I", .laysFinal "IntegerHouseModel" "IntegerHouseModel" "hereF" "[J", .lays "IntegerHouseModel" "IntegerHouseModel" "hereC" "J", .lays "IntegerHouseModel" "IntegerHouseModel" "hereD" "J", .laysFinal "IntegerHouseModel" "IntegerHouseModel" "isOn" "[Z", .laysFinal "IntegerHouseModel" "IntegerHouseModel" "claimLayer" "[I", .lays "IntegerHouseModel" "IntegerHouseModel" "layers" "I", .laysFinal "IntegerHouseModel" "IntegerHouseModel" "layerVariables" "[I", .laysFinal "IntegerHouseModel" "IntegerHouseModel" "layerClaims" "[I", .laysFinal "IntegerHouseModel" "IntegerHouseModel" "layerOn" "[Z", .lays "IntegerHouseModel" "IntegerHouseModel" "latestFault" "I", .laysFinal "IntegerHouseModel" "IntegerHouseModel" "namedAt" "[I", .laysFinal "IntegerHouseModel" "IntegerHouseModel" "printed" "[B", .lays "IntegerHouseModel" "IntegerHouseModel" "printSize" "I", .laysFinal "IntegerHouseModel" "IntegerHouseModel" "toPrint" "[I", .lays "IntegerHouseModel" "IntegerHouseModel" "toPrintSize" "I", .laysFinal "IntegerHouseModel" "IntegerHouseModel" "children" "[I", .laysFinal "IntegerHouseModel" "IntegerHouseModel" "workF" "[I", .laysFinal "IntegerHouseModel" "IntegerHouseModel" "workC" "[I", .laysFinal "IntegerHouseModel" "IntegerHouseModel" "workN" "[I", .lays "IntegerHouseModel" "IntegerHouseModel" "work" "I", .laysFinal "IntegerHouseModel" "IntegerHouseModel" "workOf" "[I", .laysFinal "IntegerHouseModel" "IntegerHouseModel" "needed" "[Z", .laysFinal "IntegerHouseModel" "IntegerHouseModel" "workIs" "[Z", .laysFinal "IntegerHouseModel" "IntegerHouseModel" "slotIs" "[Z", .laysFinal "IntegerHouseModel" "IntegerHouseModel" "nodeIs" "[Z", .laysFinal "IntegerHouseModel" "IntegerHouseModel" "place" "[I", .laysFinal "IntegerHouseModel" "IntegerHouseModel" "behind" "[I", .laysFinal "IntegerHouseModel" "IntegerHouseModel" "heads" "[I", .laysFinal "IntegerHouseModel" "IntegerHouseModel" "chain" "[I", .lays "IntegerHouseModel" "IntegerHouseModel" "places" "I", .laysFinal "IntegerHouseModel" "IntegerHouseModel" "image2" "[I", .lays "IntegerHouseModel" "IntegerHouseModel" "letters" "I", .laysFinal "IntegerHouseModel" "IntegerHouseModel" "takes" "[I", .laysFinal "IntegerHouseModel" "IntegerHouseModel" "takes2" "[I", .laysFinal "IntegerHouseModel" "IntegerHouseModel" "isOut" "[Z", .laysFinal "IntegerHouseModel" "IntegerHouseModel" "keptRow" "[I", .laysFinal "IntegerHouseModel" "IntegerHouseModel" "keptAnswer" "[I", .laysFinal "IntegerHouseModel" "IntegerHouseModel" "far" "[I", .laysFinal "IntegerHouseModel" "IntegerHouseModel" "told" "[J", .lays "IntegerHouseModel" "IntegerHouseModel" "toldVariables" "I", .lays "IntegerHouseModel" "IntegerHouseModel" "toldHeight" "I", .laysFinal "IntegerHouseModel" "IntegerHouseModel" "termF" "[J", .lays "IntegerHouseModel" "IntegerHouseModel" "termC" "J", .laysFinal "IntegerHouseModel" "IntegerHouseModel" "most" "[J", .lays "IntegerHouseModel" "IntegerHouseModel" "extremeTold" "J", .laysFinal "IntegerHouseModel" "IntegerHouseModel" "left" "[I", .laysFinal "IntegerHouseModel" "IntegerHouseModel" "news" "[J", .laysFinal "IntegerHouseModel" "IntegerHouseModel" "counts" "[Z", .laysFinal "IntegerHouseModel" "IntegerHouseModel" "row" "[I", .lays "IntegerHouseModel" "IntegerHouseModel" "coreSize" "I", .laysFinal "IntegerHouseModel" "IntegerHouseModel" "coreRow" "[I", .laysFinal "IntegerHouseModel" "IntegerHouseModel" "sort" "[I", .laysFinal "IntegerHouseModel" "IntegerHouseModel" "sort2" "[I", .laysFinal "IntegerHouseModel" "IntegerHouseModel" "stateOf" "[I", .laysFinal "IntegerHouseModel" "IntegerHouseModel" "ownBehind" "[I", .laysFinal "IntegerHouseModel" "IntegerHouseModel" "ownTakes" "[I", .lays "IntegerHouseModel" "IntegerHouseModel" "ownStates" "I", .lays "IntegerHouseModel" "IntegerHouseModel" "ownLetters" "I", .laysFinal "IntegerHouseModel" "IntegerHouseModel" "rowF" "[J", .laysFinal "IntegerHouseModel" "IntegerHouseModel" "rowC" "[J", .lays "IntegerHouseModel" "IntegerHouseModel" "rows" "I", .lays "IntegerHouseModel" "IntegerHouseModel" "sides" "I", .laysFinal "IntegerHouseModel" "IntegerHouseModel" "basis" "[I", .laysFinal "IntegerHouseModel" "IntegerHouseModel" "grid" "[J", .lays "IntegerHouseModel" "IntegerHouseModel" "base" "J", .laysFinal "IntegerHouseModel" "IntegerHouseModel" "pointA" "[J", .laysFinal "IntegerHouseModel" "IntegerHouseModel" "pointB" "[J", .lays "IntegerHouseModel" "IntegerHouseModel" "high" "J", .lays "IntegerHouseModel" "IntegerHouseModel" "low" "J", .lays "IntegerHouseModel" "IntegerHouseModel" "baseSign" "I", .laysFinal "IntegerHouseModel" "IntegerHouseModel" "fractions" "[J", .lays "IntegerHouseModel" "IntegerHouseModel" "fractionCount" "I", .laysFinal "IntegerHouseModel" "IntegerHouseModel" "pileF" "[J", .laysFinal "IntegerHouseModel" "IntegerHouseModel" "pileC" "[J", .laysFinal "IntegerHouseModel" "IntegerHouseModel" "pileRows" "[I", .lays "IntegerHouseModel" "IntegerHouseModel" "piled" "I", .lays "IntegerHouseModel" "IntegerHouseModel" "searched" "Z", .lays "IntegerHouseModel" "IntegerHouseModel" "hasBest" "Z", .lays "IntegerHouseModel" "IntegerHouseModel" "best" "J", .lays "IntegerHouseModel" "IntegerHouseModel" "nodesTaken" "I", .lays "IntegerHouseModel" "IntegerHouseModel" "cutsMade" "I", .laysFinal "IntegerHouseModel" "IntegerHouseModel" "bestAt" "[J", .laysFinal "IntegerHouseModel" "IntegerHouseModel" "steps" "[J", .laysFinal "IntegerHouseModel" "IntegerHouseModel" "lead" "[I", .laysFinal "IntegerHouseModel" "IntegerHouseModel" "proofF" "[J", .laysFinal "IntegerHouseModel" "IntegerHouseModel" "proofC" "[J", .laysFinal "IntegerHouseModel" "IntegerHouseModel" "isKnown" "[Z", .lays "IntegerHouseModel" "IntegerHouseModel" "lines" "I", .laysFinal "IntegerHouseModel" "IntegerHouseModel" "caseOf" "[I", .laysFinal "IntegerHouseModel" "IntegerHouseModel" "caseMost" "[J", .laysFinal "IntegerHouseModel" "IntegerHouseModel" "caseLine" "[I", .laysFinal "IntegerHouseModel" "IntegerHouseModel" "caseSecond" "[Z", .lays "IntegerHouseModel" "IntegerHouseModel" "openCases" "I", .laysFinal "IntegerHouseModel" "IntegerHouseModel" "big" "[I", .lays "IntegerHouseModel" "IntegerHouseModel" "bigSize" "I"] := rfl
set_option maxRecDepth 100000 in
theorem t8_12 : ∀ w ∈ u_ws RX12 TX12 195, w ∈ allW := by
  rw [e8_12]
  exact (List.forall_mem_cons.mpr ⟨(allW_in (kT_10 _ (List.mem_of_getElem? (i := 159) rfl)) rfl), (List.forall_mem_cons.mpr ⟨(allW_in (kT_10 _ (List.mem_of_getElem? (i := 161) rfl)) rfl), (List.forall_mem_cons.mpr ⟨(allW_in (kT_10 _ (List.mem_of_getElem? (i := 163) rfl)) rfl), (List.forall_mem_cons.mpr ⟨(allW_in (kT_10 _ (List.mem_of_getElem? (i := 165) rfl)) rfl), (List.forall_mem_cons.mpr ⟨(allW_in (kT_10 _ (List.mem_of_getElem? (i := 167) rfl)) rfl), (List.forall_mem_cons.mpr ⟨(allW_in (kT_10 _ (List.mem_of_getElem? (i := 169) rfl)) rfl), (List.forall_mem_cons.mpr ⟨(allW_in (kT_10 _ (List.mem_of_getElem? (i := 171) rfl)) rfl), (List.forall_mem_cons.mpr ⟨(allW_in (kT_10 _ (List.mem_of_getElem? (i := 173) rfl)) rfl), (List.forall_mem_cons.mpr ⟨(allW_in (kT_10 _ (List.mem_of_getElem? (i := 175) rfl)) rfl), (List.forall_mem_cons.mpr ⟨(allW_in (kT_10 _ (List.mem_of_getElem? (i := 177) rfl)) rfl), (List.forall_mem_cons.mpr ⟨(allW_in (kT_10 _ (List.mem_of_getElem? (i := 179) rfl)) rfl), (List.forall_mem_cons.mpr ⟨(allW_in (kT_10 _ (List.mem_of_getElem? (i := 181) rfl)) rfl), (List.forall_mem_cons.mpr ⟨(allW_in (kT_10 _ (List.mem_of_getElem? (i := 183) rfl)) rfl), (List.forall_mem_cons.mpr ⟨(allW_in (kT_10 _ (List.mem_of_getElem? (i := 185) rfl)) rfl), (List.forall_mem_cons.mpr ⟨(allW_in (kT_10 _ (List.mem_of_getElem? (i := 187) rfl)) rfl), (List.forall_mem_cons.mpr ⟨(allW_in (kT_10 _ (List.mem_of_getElem? (i := 189) rfl)) rfl), (List.forall_mem_cons.mpr ⟨(allW_in (kT_10 _ (List.mem_of_getElem? (i := 191) rfl)) rfl), (List.forall_mem_cons.mpr ⟨(allW_in (kT_10 _ (List.mem_of_getElem? (i := 193) rfl)) rfl), (List.forall_mem_cons.mpr ⟨(allW_in (kT_10 _ (List.mem_of_getElem? (i := 195) rfl)) rfl), (List.forall_mem_cons.mpr ⟨(allW_in (kT_10 _ (List.mem_of_getElem? (i := 197) rfl)) rfl), (List.forall_mem_cons.mpr ⟨(allW_in (kT_10 _ (List.mem_of_getElem? (i := 199) rfl)) rfl), (List.forall_mem_cons.mpr ⟨(allW_in (kT_10 _ (List.mem_of_getElem? (i := 201) rfl)) rfl), (List.forall_mem_cons.mpr ⟨(allW_in (kT_10 _ (List.mem_of_getElem? (i := 203) rfl)) rfl), (List.forall_mem_cons.mpr ⟨(allW_in (kT_10 _ (List.mem_of_getElem? (i := 205) rfl)) rfl), (List.forall_mem_cons.mpr ⟨(allW_in (kT_10 _ (List.mem_of_getElem? (i := 207) rfl)) rfl), (List.forall_mem_cons.mpr ⟨(allW_in (kT_10 _ (List.mem_of_getElem? (i := 209) rfl)) rfl), (List.forall_mem_cons.mpr ⟨(allW_in (kT_10 _ (List.mem_of_getElem? (i := 211) rfl)) rfl), (List.forall_mem_cons.mpr ⟨(allW_in (kT_10 _ (List.mem_of_getElem? (i := 213) rfl)) rfl), (List.forall_mem_cons.mpr ⟨(allW_in (kT_10 _ (List.mem_of_getElem? (i := 215) rfl)) rfl), (List.forall_mem_cons.mpr ⟨(allW_in (kT_10 _ (List.mem_of_getElem? (i := 217) rfl)) rfl), (List.forall_mem_cons.mpr ⟨(allW_in (kT_10 _ (List.mem_of_getElem? (i := 219) rfl)) rfl), (List.forall_mem_cons.mpr ⟨(allW_in (kT_10 _ (List.mem_of_getElem? (i := 221) rfl)) rfl), (List.forall_mem_cons.mpr ⟨(allW_in (kT_10 _ (List.mem_of_getElem? (i := 223) rfl)) rfl), (List.forall_mem_cons.mpr ⟨(allW_in (kT_10 _ (List.mem_of_getElem? (i := 225) rfl)) rfl), (List.forall_mem_cons.mpr ⟨(allW_in (kT_10 _ (List.mem_of_getElem? (i := 227) rfl)) rfl), (List.forall_mem_cons.mpr ⟨(allW_in (kT_10 _ (List.mem_of_getElem? (i := 229) rfl)) rfl), (List.forall_mem_cons.mpr ⟨(allW_in (kT_10 _ (List.mem_of_getElem? (i := 231) rfl)) rfl), (List.forall_mem_cons.mpr ⟨(allW_in (kT_10 _ (List.mem_of_getElem? (i := 233) rfl)) rfl), (List.forall_mem_cons.mpr ⟨(allW_in (kT_10 _ (List.mem_of_getElem? (i := 235) rfl)) rfl), (List.forall_mem_cons.mpr ⟨(allW_in (kT_10 _ (List.mem_of_getElem? (i := 237) rfl)) rfl), (List.forall_mem_cons.mpr ⟨(allW_in (kT_10 _ (List.mem_of_getElem? (i := 239) rfl)) rfl), (List.forall_mem_cons.mpr ⟨(allW_in (kT_11 _ (List.mem_of_getElem? (i := 1) rfl)) rfl), (List.forall_mem_cons.mpr ⟨(allW_in (kT_11 _ (List.mem_of_getElem? (i := 3) rfl)) rfl), (List.forall_mem_cons.mpr ⟨(allW_in (kT_11 _ (List.mem_of_getElem? (i := 5) rfl)) rfl), (List.forall_mem_cons.mpr ⟨(allW_in (kT_11 _ (List.mem_of_getElem? (i := 7) rfl)) rfl), (List.forall_mem_cons.mpr ⟨(allW_in (kT_11 _ (List.mem_of_getElem? (i := 9) rfl)) rfl), (List.forall_mem_cons.mpr ⟨(allW_in (kT_11 _ (List.mem_of_getElem? (i := 11) rfl)) rfl), (List.forall_mem_cons.mpr ⟨(allW_in (kT_11 _ (List.mem_of_getElem? (i := 13) rfl)) rfl), (List.forall_mem_cons.mpr ⟨(allW_in (kT_11 _ (List.mem_of_getElem? (i := 15) rfl)) rfl), (List.forall_mem_cons.mpr ⟨(allW_in (kT_11 _ (List.mem_of_getElem? (i := 17) rfl)) rfl), (List.forall_mem_cons.mpr ⟨(allW_in (kT_11 _ (List.mem_of_getElem? (i := 19) rfl)) rfl), (List.forall_mem_cons.mpr ⟨(allW_in (kT_11 _ (List.mem_of_getElem? (i := 21) rfl)) rfl), (List.forall_mem_cons.mpr ⟨(allW_in (kT_11 _ (List.mem_of_getElem? (i := 23) rfl)) rfl), (List.forall_mem_cons.mpr ⟨(allW_in (kT_11 _ (List.mem_of_getElem? (i := 25) rfl)) rfl), (List.forall_mem_cons.mpr ⟨(allW_in (kT_11 _ (List.mem_of_getElem? (i := 27) rfl)) rfl), (List.forall_mem_cons.mpr ⟨(allW_in (kT_11 _ (List.mem_of_getElem? (i := 29) rfl)) rfl), (List.forall_mem_cons.mpr ⟨(allW_in (kT_11 _ (List.mem_of_getElem? (i := 31) rfl)) rfl), (List.forall_mem_cons.mpr ⟨(allW_in (kT_11 _ (List.mem_of_getElem? (i := 33) rfl)) rfl), (List.forall_mem_cons.mpr ⟨(allW_in (kT_11 _ (List.mem_of_getElem? (i := 35) rfl)) rfl), (List.forall_mem_cons.mpr ⟨(allW_in (kT_11 _ (List.mem_of_getElem? (i := 37) rfl)) rfl), (List.forall_mem_cons.mpr ⟨(allW_in (kT_11 _ (List.mem_of_getElem? (i := 39) rfl)) rfl), (List.forall_mem_cons.mpr ⟨(allW_in (kT_11 _ (List.mem_of_getElem? (i := 41) rfl)) rfl), (List.forall_mem_cons.mpr ⟨(allW_in (kT_11 _ (List.mem_of_getElem? (i := 43) rfl)) rfl), (List.forall_mem_cons.mpr ⟨(allW_in (kT_11 _ (List.mem_of_getElem? (i := 45) rfl)) rfl), (List.forall_mem_cons.mpr ⟨(allW_in (kT_11 _ (List.mem_of_getElem? (i := 47) rfl)) rfl), (List.forall_mem_cons.mpr ⟨(allW_in (kT_11 _ (List.mem_of_getElem? (i := 49) rfl)) rfl), (List.forall_mem_cons.mpr ⟨(allW_in (kT_11 _ (List.mem_of_getElem? (i := 51) rfl)) rfl), (List.forall_mem_cons.mpr ⟨(allW_in (kT_11 _ (List.mem_of_getElem? (i := 53) rfl)) rfl), (List.forall_mem_cons.mpr ⟨(allW_in (kT_11 _ (List.mem_of_getElem? (i := 55) rfl)) rfl), (List.forall_mem_cons.mpr ⟨(allW_in (kT_11 _ (List.mem_of_getElem? (i := 57) rfl)) rfl), (List.forall_mem_cons.mpr ⟨(allW_in (kT_11 _ (List.mem_of_getElem? (i := 59) rfl)) rfl), (List.forall_mem_cons.mpr ⟨(allW_in (kT_11 _ (List.mem_of_getElem? (i := 61) rfl)) rfl), (List.forall_mem_cons.mpr ⟨(allW_in (kT_11 _ (List.mem_of_getElem? (i := 63) rfl)) rfl), (List.forall_mem_cons.mpr ⟨(allW_in (kT_11 _ (List.mem_of_getElem? (i := 65) rfl)) rfl), (List.forall_mem_cons.mpr ⟨(allW_in (kT_11 _ (List.mem_of_getElem? (i := 67) rfl)) rfl), (List.forall_mem_cons.mpr ⟨(allW_in (kT_11 _ (List.mem_of_getElem? (i := 69) rfl)) rfl), (List.forall_mem_cons.mpr ⟨(allW_in (kT_11 _ (List.mem_of_getElem? (i := 71) rfl)) rfl), (List.forall_mem_cons.mpr ⟨(allW_in (kT_11 _ (List.mem_of_getElem? (i := 73) rfl)) rfl), (List.forall_mem_cons.mpr ⟨(allW_in (kT_11 _ (List.mem_of_getElem? (i := 75) rfl)) rfl), (List.forall_mem_cons.mpr ⟨(allW_in (kT_11 _ (List.mem_of_getElem? (i := 77) rfl)) rfl), (List.forall_mem_cons.mpr ⟨(allW_in (kT_11 _ (List.mem_of_getElem? (i := 79) rfl)) rfl), (List.forall_mem_cons.mpr ⟨(allW_in (kT_11 _ (List.mem_of_getElem? (i := 81) rfl)) rfl), (List.forall_mem_cons.mpr ⟨(allW_in (kT_11 _ (List.mem_of_getElem? (i := 83) rfl)) rfl), (List.forall_mem_cons.mpr ⟨(allW_in (kT_11 _ (List.mem_of_getElem? (i := 85) rfl)) rfl), (List.forall_mem_cons.mpr ⟨(allW_in (kT_11 _ (List.mem_of_getElem? (i := 87) rfl)) rfl), (List.forall_mem_cons.mpr ⟨(allW_in (kT_11 _ (List.mem_of_getElem? (i := 89) rfl)) rfl), (List.forall_mem_cons.mpr ⟨(allW_in (kT_11 _ (List.mem_of_getElem? (i := 91) rfl)) rfl), (List.forall_mem_cons.mpr ⟨(allW_in (kT_11 _ (List.mem_of_getElem? (i := 93) rfl)) rfl), (List.forall_mem_cons.mpr ⟨(allW_in (kT_11 _ (List.mem_of_getElem? (i := 95) rfl)) rfl), (List.forall_mem_cons.mpr ⟨(allW_in (kT_11 _ (List.mem_of_getElem? (i := 97) rfl)) rfl), (List.forall_mem_cons.mpr ⟨(allW_in (kT_11 _ (List.mem_of_getElem? (i := 99) rfl)) rfl), (List.forall_mem_cons.mpr ⟨(allW_in (kT_11 _ (List.mem_of_getElem? (i := 101) rfl)) rfl), (List.forall_mem_cons.mpr ⟨(allW_in (kT_11 _ (List.mem_of_getElem? (i := 103) rfl)) rfl), (List.forall_mem_cons.mpr ⟨(allW_in (kT_11 _ (List.mem_of_getElem? (i := 105) rfl)) rfl), (List.forall_mem_cons.mpr ⟨(allW_in (kT_11 _ (List.mem_of_getElem? (i := 107) rfl)) rfl), (List.forall_mem_cons.mpr ⟨(allW_in (kT_11 _ (List.mem_of_getElem? (i := 109) rfl)) rfl), (List.forall_mem_cons.mpr ⟨(allW_in (kT_11 _ (List.mem_of_getElem? (i := 111) rfl)) rfl), (List.forall_mem_cons.mpr ⟨(allW_in (kT_11 _ (List.mem_of_getElem? (i := 113) rfl)) rfl), (List.forall_mem_cons.mpr ⟨(allW_in (kT_11 _ (List.mem_of_getElem? (i := 115) rfl)) rfl), (List.forall_mem_cons.mpr ⟨(allW_in (kT_11 _ (List.mem_of_getElem? (i := 117) rfl)) rfl), (List.forall_mem_cons.mpr ⟨(allW_in (kT_11 _ (List.mem_of_getElem? (i := 119) rfl)) rfl), (List.forall_mem_cons.mpr ⟨(allW_in (kT_11 _ (List.mem_of_getElem? (i := 121) rfl)) rfl), (List.forall_mem_cons.mpr ⟨(allW_in (kT_11 _ (List.mem_of_getElem? (i := 123) rfl)) rfl), (List.forall_mem_cons.mpr ⟨(allW_in (kT_11 _ (List.mem_of_getElem? (i := 125) rfl)) rfl), (List.forall_mem_cons.mpr ⟨(allW_in (kT_11 _ (List.mem_of_getElem? (i := 127) rfl)) rfl), (List.forall_mem_cons.mpr ⟨(allW_in (kT_11 _ (List.mem_of_getElem? (i := 129) rfl)) rfl), (List.forall_mem_cons.mpr ⟨(allW_in (kT_11 _ (List.mem_of_getElem? (i := 131) rfl)) rfl), (List.forall_mem_cons.mpr ⟨(allW_in (kT_11 _ (List.mem_of_getElem? (i := 133) rfl)) rfl), (List.forall_mem_cons.mpr ⟨(allW_in (kT_11 _ (List.mem_of_getElem? (i := 135) rfl)) rfl), (List.forall_mem_cons.mpr ⟨(allW_in (kT_11 _ (List.mem_of_getElem? (i := 137) rfl)) rfl), (List.forall_mem_cons.mpr ⟨(allW_in (kT_11 _ (List.mem_of_getElem? (i := 139) rfl)) rfl), (List.forall_mem_cons.mpr ⟨(allW_in (kT_11 _ (List.mem_of_getElem? (i := 141) rfl)) rfl), (List.forall_mem_cons.mpr ⟨(allW_in (kT_11 _ (List.mem_of_getElem? (i := 143) rfl)) rfl), (List.forall_mem_cons.mpr ⟨(allW_in (kT_11 _ (List.mem_of_getElem? (i := 145) rfl)) rfl), (List.forall_mem_cons.mpr ⟨(allW_in (kT_11 _ (List.mem_of_getElem? (i := 147) rfl)) rfl), (List.forall_mem_cons.mpr ⟨(allW_in (kT_11 _ (List.mem_of_getElem? (i := 149) rfl)) rfl), (List.forall_mem_cons.mpr ⟨(allW_in (kT_11 _ (List.mem_of_getElem? (i := 151) rfl)) rfl), (List.forall_mem_cons.mpr ⟨(allW_in (kT_11 _ (List.mem_of_getElem? (i := 153) rfl)) rfl), (List.forall_mem_cons.mpr ⟨(allW_in (kT_11 _ (List.mem_of_getElem? (i := 155) rfl)) rfl), (List.forall_mem_cons.mpr ⟨(allW_in (kT_11 _ (List.mem_of_getElem? (i := 157) rfl)) rfl), (List.forall_mem_cons.mpr ⟨(allW_in (kT_11 _ (List.mem_of_getElem? (i := 159) rfl)) rfl), (List.forall_mem_cons.mpr ⟨(allW_in (kT_11 _ (List.mem_of_getElem? (i := 161) rfl)) rfl), (List.forall_mem_cons.mpr ⟨(allW_in (kT_11 _ (List.mem_of_getElem? (i := 163) rfl)) rfl), (List.forall_mem_cons.mpr ⟨(allW_in (kT_11 _ (List.mem_of_getElem? (i := 165) rfl)) rfl), (List.forall_mem_cons.mpr ⟨(allW_in (kT_11 _ (List.mem_of_getElem? (i := 167) rfl)) rfl), (List.forall_mem_cons.mpr ⟨(allW_in (kT_11 _ (List.mem_of_getElem? (i := 169) rfl)) rfl), (List.forall_mem_cons.mpr ⟨(allW_in (kT_11 _ (List.mem_of_getElem? (i := 171) rfl)) rfl), (List.forall_mem_cons.mpr ⟨(allW_in (kT_11 _ (List.mem_of_getElem? (i := 173) rfl)) rfl), (List.forall_mem_cons.mpr ⟨(allW_in (kT_11 _ (List.mem_of_getElem? (i := 175) rfl)) rfl), (List.forall_mem_cons.mpr ⟨(allW_in (kT_11 _ (List.mem_of_getElem? (i := 177) rfl)) rfl), (List.forall_mem_cons.mpr ⟨(allW_in (kT_11 _ (List.mem_of_getElem? (i := 179) rfl)) rfl), (List.forall_mem_cons.mpr ⟨(allW_in (kT_11 _ (List.mem_of_getElem? (i := 181) rfl)) rfl), (List.forall_mem_cons.mpr ⟨(allW_in (kT_11 _ (List.mem_of_getElem? (i := 183) rfl)) rfl), (List.forall_mem_cons.mpr ⟨(allW_in (kT_11 _ (List.mem_of_getElem? (i := 185) rfl)) rfl), (List.forall_mem_cons.mpr ⟨(allW_in (kT_11 _ (List.mem_of_getElem? (i := 187) rfl)) rfl), (List.forall_mem_cons.mpr ⟨(allW_in (kT_11 _ (List.mem_of_getElem? (i := 189) rfl)) rfl), (List.forall_mem_cons.mpr ⟨(allW_in (kT_11 _ (List.mem_of_getElem? (i := 191) rfl)) rfl), (List.forall_mem_cons.mpr ⟨(allW_in (kT_11 _ (List.mem_of_getElem? (i := 193) rfl)) rfl), (List.forall_mem_cons.mpr ⟨(allW_in (kT_11 _ (List.mem_of_getElem? (i := 195) rfl)) rfl), (List.forall_mem_cons.mpr ⟨(allW_in (kT_11 _ (List.mem_of_getElem? (i := 197) rfl)) rfl), (List.forall_mem_cons.mpr ⟨(allW_in (kT_11 _ (List.mem_of_getElem? (i := 199) rfl)) rfl), (List.forall_mem_cons.mpr ⟨(allW_in (kT_11 _ (List.mem_of_getElem? (i := 201) rfl)) rfl), (List.forall_mem_cons.mpr ⟨(allW_in (kT_11 _ (List.mem_of_getElem? (i := 203) rfl)) rfl), (List.forall_mem_cons.mpr ⟨(allW_in (kT_11 _ (List.mem_of_getElem? (i := 205) rfl)) rfl), (List.forall_mem_cons.mpr ⟨(allW_in (kT_11 _ (List.mem_of_getElem? (i := 207) rfl)) rfl), (List.forall_mem_cons.mpr ⟨(allW_in (kT_11 _ (List.mem_of_getElem? (i := 209) rfl)) rfl), (List.forall_mem_cons.mpr ⟨(allW_in (kT_11 _ (List.mem_of_getElem? (i := 211) rfl)) rfl), (List.forall_mem_cons.mpr ⟨(allW_in (kT_11 _ (List.mem_of_getElem? (i := 213) rfl)) rfl), (List.forall_mem_cons.mpr ⟨(allW_in (kT_11 _ (List.mem_of_getElem? (i := 215) rfl)) rfl), (List.forall_mem_cons.mpr ⟨(allW_in (kT_11 _ (List.mem_of_getElem? (i := 217) rfl)) rfl), (List.forall_mem_cons.mpr ⟨(allW_in (kT_11 _ (List.mem_of_getElem? (i := 219) rfl)) rfl), (List.forall_mem_cons.mpr ⟨(allW_in (kT_11 _ (List.mem_of_getElem? (i := 221) rfl)) rfl), (List.forall_mem_cons.mpr ⟨(allW_in (kT_11 _ (List.mem_of_getElem? (i := 223) rfl)) rfl), (List.forall_mem_cons.mpr ⟨(allW_in (kT_11 _ (List.mem_of_getElem? (i := 225) rfl)) rfl), (List.forall_mem_cons.mpr ⟨(allW_in (kT_11 _ (List.mem_of_getElem? (i := 227) rfl)) rfl), (List.forall_mem_cons.mpr ⟨(allW_in (kT_11 _ (List.mem_of_getElem? (i := 229) rfl)) rfl), (List.forall_mem_cons.mpr ⟨(allW_in (kT_11 _ (List.mem_of_getElem? (i := 231) rfl)) rfl), (List.forall_mem_cons.mpr ⟨(allW_in (kT_11 _ (List.mem_of_getElem? (i := 233) rfl)) rfl), (List.forall_mem_cons.mpr ⟨(allW_in (kT_11 _ (List.mem_of_getElem? (i := 235) rfl)) rfl), (List.forall_mem_cons.mpr ⟨(allW_in (kT_11 _ (List.mem_of_getElem? (i := 237) rfl)) rfl), (List.forall_mem_cons.mpr ⟨(allW_in (kT_11 _ (List.mem_of_getElem? (i := 239) rfl)) rfl), (List.forall_mem_cons.mpr ⟨(allW_in (kT_12 _ (List.mem_of_getElem? (i := 1) rfl)) rfl), (List.forall_mem_cons.mpr ⟨(allW_in (kT_12 _ (List.mem_of_getElem? (i := 3) rfl)) rfl), (List.forall_mem_cons.mpr ⟨(allW_in (kT_12 _ (List.mem_of_getElem? (i := 5) rfl)) rfl), (List.forall_mem_cons.mpr ⟨(allW_in (kT_12 _ (List.mem_of_getElem? (i := 7) rfl)) rfl), (List.forall_mem_cons.mpr ⟨(allW_in (kT_12 _ (List.mem_of_getElem? (i := 9) rfl)) rfl), (List.forall_mem_cons.mpr ⟨(allW_in (kT_12 _ (List.mem_of_getElem? (i := 11) rfl)) rfl), (List.forall_mem_cons.mpr ⟨(allW_in (kT_12 _ (List.mem_of_getElem? (i := 13) rfl)) rfl), (List.forall_mem_cons.mpr ⟨(allW_in (kT_12 _ (List.mem_of_getElem? (i := 15) rfl)) rfl), (List.forall_mem_cons.mpr ⟨(allW_in (kT_12 _ (List.mem_of_getElem? (i := 17) rfl)) rfl), (List.forall_mem_cons.mpr ⟨(allW_in (kT_12 _ (List.mem_of_getElem? (i := 19) rfl)) rfl), (List.forall_mem_cons.mpr ⟨(allW_in (kT_12 _ (List.mem_of_getElem? (i := 21) rfl)) rfl), (List.forall_mem_cons.mpr ⟨(allW_in (kT_12 _ (List.mem_of_getElem? (i := 23) rfl)) rfl), (List.forall_mem_cons.mpr ⟨(allW_in (kT_12 _ (List.mem_of_getElem? (i := 25) rfl)) rfl), (List.forall_mem_cons.mpr ⟨(allW_in (kT_12 _ (List.mem_of_getElem? (i := 27) rfl)) rfl), (List.forall_mem_cons.mpr ⟨(allW_in (kT_12 _ (List.mem_of_getElem? (i := 29) rfl)) rfl), (List.forall_mem_cons.mpr ⟨(allW_in (kT_12 _ (List.mem_of_getElem? (i := 31) rfl)) rfl), (List.forall_mem_cons.mpr ⟨(allW_in (kT_12 _ (List.mem_of_getElem? (i := 33) rfl)) rfl), (List.forall_mem_cons.mpr ⟨(allW_in (kT_12 _ (List.mem_of_getElem? (i := 35) rfl)) rfl), (List.forall_mem_cons.mpr ⟨(allW_in (kT_12 _ (List.mem_of_getElem? (i := 37) rfl)) rfl), (List.forall_mem_cons.mpr ⟨(allW_in (kT_12 _ (List.mem_of_getElem? (i := 39) rfl)) rfl), (List.forall_mem_cons.mpr ⟨(allW_in (kT_12 _ (List.mem_of_getElem? (i := 41) rfl)) rfl), (List.forall_mem_cons.mpr ⟨(allW_in (kT_12 _ (List.mem_of_getElem? (i := 43) rfl)) rfl), (List.forall_mem_cons.mpr ⟨(allW_in (kT_12 _ (List.mem_of_getElem? (i := 45) rfl)) rfl), (List.forall_mem_cons.mpr ⟨(allW_in (kT_12 _ (List.mem_of_getElem? (i := 47) rfl)) rfl), (List.forall_mem_cons.mpr ⟨(allW_in (kT_12 _ (List.mem_of_getElem? (i := 49) rfl)) rfl), (List.forall_mem_cons.mpr ⟨(allW_in (kT_12 _ (List.mem_of_getElem? (i := 51) rfl)) rfl), (List.forall_mem_cons.mpr ⟨(allW_in (kT_12 _ (List.mem_of_getElem? (i := 53) rfl)) rfl), (List.forall_mem_cons.mpr ⟨(allW_in (kT_12 _ (List.mem_of_getElem? (i := 55) rfl)) rfl), (List.forall_mem_cons.mpr ⟨(allW_in (kT_12 _ (List.mem_of_getElem? (i := 57) rfl)) rfl), (List.forall_mem_cons.mpr ⟨(allW_in (kT_12 _ (List.mem_of_getElem? (i := 59) rfl)) rfl), (List.forall_mem_cons.mpr ⟨(allW_in (kT_12 _ (List.mem_of_getElem? (i := 61) rfl)) rfl), (List.forall_mem_cons.mpr ⟨(allW_in (kT_12 _ (List.mem_of_getElem? (i := 63) rfl)) rfl), (List.forall_mem_cons.mpr ⟨(allW_in (kT_12 _ (List.mem_of_getElem? (i := 65) rfl)) rfl), (List.forall_mem_cons.mpr ⟨(allW_in (kT_12 _ (List.mem_of_getElem? (i := 67) rfl)) rfl), (fun _ h => absurd h List.not_mem_nil)⟩)⟩)⟩)⟩)⟩)⟩)⟩)⟩)⟩)⟩)⟩)⟩)⟩)⟩)⟩)⟩)⟩)⟩)⟩)⟩)⟩)⟩)⟩)⟩)⟩)⟩)⟩)⟩)⟩)⟩)⟩)⟩)⟩)⟩)⟩)⟩)⟩)⟩)⟩)⟩)⟩)⟩)⟩)⟩)⟩)⟩)⟩)⟩)⟩)⟩)⟩)⟩)⟩)⟩)⟩)⟩)⟩)⟩)⟩)⟩)⟩)⟩)⟩)⟩)⟩)⟩)⟩)⟩)⟩)⟩)⟩)⟩)⟩)⟩)⟩)⟩)⟩)⟩)⟩)⟩)⟩)⟩)⟩)⟩)⟩)⟩)⟩)⟩)⟩)⟩)⟩)⟩)⟩)⟩)⟩)⟩)⟩)⟩)⟩)⟩)⟩)⟩)⟩)⟩)⟩)⟩)⟩)⟩)⟩)⟩)⟩)⟩)⟩)⟩)⟩)⟩)⟩)⟩)⟩)⟩)⟩)⟩)⟩)⟩)⟩)⟩)⟩)⟩)⟩)⟩)⟩)⟩)⟩)⟩)⟩)⟩)⟩)⟩)⟩)⟩)⟩)⟩)⟩)⟩)⟩)⟩)⟩)⟩)⟩)⟩)⟩)⟩)⟩)⟩)⟩)⟩)⟩)⟩)⟩)⟩)⟩)⟩)⟩)⟩)⟩)⟩)⟩)⟩)⟩)⟩)⟩)⟩)⟩)⟩)⟩)⟩)⟩)⟩)⟩)⟩)⟩)⟩)⟩)⟩)⟩)⟩)⟩)⟩)⟩)⟩)⟩)⟩)⟩)⟩)⟩)
theorem ck_12 : ClsOK 12 := ⟨RX12, TX12, 195, tyX12, rfl, t8_12, tyX12_ok, nmX12, rfl⟩
theorem ly_0 : layL.getD 0 (9, 0) = (0, 11) := rfl
theorem ly_1 : layL.getD 1 (9, 0) = (4, 2000) := rfl
theorem ly_2 : layL.getD 2 (9, 0) = (0, 1) := rfl
theorem ly_3 : layL.getD 3 (9, 0) = (4, 25600) := rfl
theorem ly_4 : layL.getD 4 (9, 0) = (3, 101) := rfl
theorem ly_5 : layL.getD 5 (9, 0) = (4, 256) := rfl
theorem ly_6 : layL.getD 6 (9, 0) = (4, 24800) := rfl
theorem ly_7 : layL.getD 7 (9, 0) = (0, 2) := rfl
theorem ly_8 : layL.getD 8 (9, 0) = (2, 4) := rfl
theorem ly_9 : layL.getD 9 (9, 0) = (2, 24) := rfl
theorem ly_10 : layL.getD 10 (9, 0) = (1, 3120) := rfl
theorem ly_11 : layL.getD 11 (9, 0) = (1, 13312) := rfl
theorem ly_12 : layL.getD 12 (9, 0) = (1, 26624) := rfl
theorem ly_13 : layL.getD 13 (9, 0) = (1, 260) := rfl
theorem ly_14 : layL.getD 14 (9, 0) = (1, 624) := rfl
theorem ly_15 : layL.getD 15 (9, 0) = (1, 3840) := rfl
theorem ly_16 : layL.getD 16 (9, 0) = (1, 32) := rfl
theorem ly_17 : layL.getD 17 (9, 0) = (4, 1200) := rfl
theorem ly_18 : layL.getD 18 (9, 0) = (0, 3) := rfl
theorem ly_19 : layL.getD 19 (9, 0) = (2, 20) := rfl
theorem ly_20 : layL.getD 20 (9, 0) = (1, 2001) := rfl
theorem ly_21 : layL.getD 21 (9, 0) = (1, 2001) := rfl
theorem ly_22 : layL.getD 22 (9, 0) = (1, 2001) := rfl
theorem ly_23 : layL.getD 23 (9, 0) = (2, 2001) := rfl
theorem ly_24 : layL.getD 24 (9, 0) = (4, 0) := rfl
theorem ly_25 : layL.getD 25 (9, 0) = (0, 4) := rfl
theorem ly_26 : layL.getD 26 (9, 0) = (2, 1920) := rfl
theorem ly_27 : layL.getD 27 (9, 0) = (1, 8) := rfl
theorem ly_28 : layL.getD 28 (9, 0) = (1, 6) := rfl
theorem ly_29 : layL.getD 29 (9, 0) = (2, 5) := rfl
theorem ly_30 : layL.getD 30 (9, 0) = (0, 8) := rfl
theorem ly_31 : layL.getD 31 (9, 0) = (0, 6) := rfl
theorem ly_32 : layL.getD 32 (9, 0) = (1, 32) := rfl
theorem ly_33 : layL.getD 33 (9, 0) = (1, 640) := rfl
theorem ly_34 : layL.getD 34 (9, 0) = (3, 32) := rfl
theorem ly_35 : layL.getD 35 (9, 0) = (1, 512) := rfl
theorem ly_36 : layL.getD 36 (9, 0) = (1, 32) := rfl
theorem ly_37 : layL.getD 37 (9, 0) = (1, 96000) := rfl
theorem ly_38 : layL.getD 38 (9, 0) = (1, 48000) := rfl
theorem ly_39 : layL.getD 39 (9, 0) = (1, 48000) := rfl
theorem ly_40 : layL.getD 40 (9, 0) = (1, 8192) := rfl
theorem ly_41 : layL.getD 41 (9, 0) = (0, 0) := rfl
theorem ly_42 : layL.getD 42 (9, 0) = (2, 4) := rfl
theorem ly_43 : layL.getD 43 (9, 0) = (2, 4) := rfl
theorem ly_44 : layL.getD 44 (9, 0) = (1, 3000) := rfl
theorem ly_45 : layL.getD 45 (9, 0) = (1, 3000) := rfl
theorem ly_46 : layL.getD 46 (9, 0) = (2, 16) := rfl
theorem ly_47 : layL.getD 47 (9, 0) = (2, 3000) := rfl
theorem ly_48 : layL.getD 48 (9, 0) = (2, 3000) := rfl
theorem ly_49 : layL.getD 49 (9, 0) = (1, 24) := rfl
theorem ly_50 : layL.getD 50 (9, 0) = (2, 1100) := rfl
theorem ly_51 : layL.getD 51 (9, 0) = (0, 5) := rfl
theorem ly_52 : layL.getD 52 (9, 0) = (1, 3000) := rfl
theorem ly_53 : layL.getD 53 (9, 0) = (1, 3000) := rfl
theorem ly_54 : layL.getD 54 (9, 0) = (1, 3000) := rfl
theorem ly_55 : layL.getD 55 (9, 0) = (1, 8192) := rfl
theorem ly_56 : layL.getD 56 (9, 0) = (1, 3000) := rfl
theorem ly_57 : layL.getD 57 (9, 0) = (1, 3000) := rfl
theorem ly_58 : layL.getD 58 (9, 0) = (1, 48000) := rfl
theorem ly_59 : layL.getD 59 (9, 0) = (1, 3000) := rfl
theorem ly_60 : layL.getD 60 (9, 0) = (0, 9) := rfl
theorem ly_61 : layL.getD 61 (9, 0) = (2, 2400) := rfl
theorem ly_62 : layL.getD 62 (9, 0) = (2, 4) := rfl
theorem ly_63 : layL.getD 63 (9, 0) = (1, 4) := rfl
theorem ly_64 : layL.getD 64 (9, 0) = (2, 16) := rfl
theorem ly_65 : layL.getD 65 (9, 0) = (2, 4) := rfl
theorem ly_66 : layL.getD 66 (9, 0) = (2, 4) := rfl
theorem ly_67 : layL.getD 67 (9, 0) = (2, 4) := rfl
theorem ly_68 : layL.getD 68 (9, 0) = (2, 10) := rfl
theorem ly_69 : layL.getD 69 (9, 0) = (0, 10) := rfl
theorem ly_70 : layL.getD 70 (9, 0) = (1, 256) := rfl
theorem ly_71 : layL.getD 71 (9, 0) = (1, 256) := rfl
theorem ly_72 : layL.getD 72 (9, 0) = (1, 256) := rfl
theorem ly_73 : layL.getD 73 (9, 0) = (2, 256) := rfl
theorem ly_74 : layL.getD 74 (9, 0) = (2, 4) := rfl
theorem ly_75 : layL.getD 75 (9, 0) = (0, 7) := rfl
theorem ly_76 : layL.getD 76 (9, 0) = (2, 1000) := rfl
theorem ly_77 : layL.getD 77 (9, 0) = (3, 200) := rfl
theorem ly_78 : layL.getD 78 (9, 0) = (2, 5) := rfl
theorem ly_79 : layL.getD 79 (9, 0) = (1, 4) := rfl
theorem ly_80 : layL.getD 80 (9, 0) = (1, 20) := rfl
theorem ly_81 : layL.getD 81 (9, 0) = (1, 20) := rfl
theorem ly_82 : layL.getD 82 (9, 0) = (1, 20) := rfl
theorem ly_83 : layL.getD 83 (9, 0) = (3, 20) := rfl
theorem ly_84 : layL.getD 84 (9, 0) = (0, 12) := rfl
theorem ly_85 : layL.getD 85 (9, 0) = (1, 4000) := rfl
theorem ly_86 : layL.getD 86 (9, 0) = (3, 20) := rfl
theorem ly_87 : layL.getD 87 (9, 0) = (1, 20) := rfl
theorem ly_88 : layL.getD 88 (9, 0) = (2, 20) := rfl
theorem ly_89 : layL.getD 89 (9, 0) = (1, 20) := rfl
theorem ly_90 : layL.getD 90 (9, 0) = (3, 201) := rfl
theorem ly_91 : layL.getD 91 (9, 0) = (2, 201) := rfl
theorem ly_92 : layL.getD 92 (9, 0) = (2, 804) := rfl
theorem ly_93 : layL.getD 93 (9, 0) = (1, 4) := rfl
theorem ly_94 : layL.getD 94 (9, 0) = (2, 16) := rfl
theorem ly_95 : layL.getD 95 (9, 0) = (2, 4) := rfl
theorem ly_96 : layL.getD 96 (9, 0) = (1, 104) := rfl
theorem ly_97 : layL.getD 97 (9, 0) = (2, 58240) := rfl
theorem ly_98 : layL.getD 98 (9, 0) = (2, 232960) := rfl
theorem ly_99 : layL.getD 99 (9, 0) = (2, 10) := rfl
theorem ly_100 : layL.getD 100 (9, 0) = (2, 4) := rfl
theorem ly_101 : layL.getD 101 (9, 0) = (2, 4) := rfl
theorem ly_102 : layL.getD 102 (9, 0) = (2, 16) := rfl
theorem ly_103 : layL.getD 103 (9, 0) = (1, 4) := rfl
theorem ly_104 : layL.getD 104 (9, 0) = (2, 600) := rfl
theorem ly_105 : layL.getD 105 (9, 0) = (2, 2400) := rfl
theorem ly_106 : layL.getD 106 (9, 0) = (1, 3000) := rfl
theorem ly_107 : layL.getD 107 (9, 0) = (1, 48000) := rfl
theorem ly_108 : layL.getD 108 (9, 0) = (1, 3000) := rfl
theorem ly_109 : layL.getD 109 (9, 0) = (1, 3000) := rfl
theorem ly_110 : layL.getD 110 (9, 0) = (1, 3000) := rfl
theorem ly_111 : layL.getD 111 (9, 0) = (1, 24) := rfl
theorem ly_112 : layL.getD 112 (9, 0) = (1, 3000) := rfl
theorem ly_113 : layL.getD 113 (9, 0) = (3, 3000) := rfl
theorem ly_114 : layL.getD 114 (9, 0) = (2, 3000) := rfl
theorem ly_115 : layL.getD 115 (9, 0) = (1, 3000) := rfl
theorem ly_116 : layL.getD 116 (9, 0) = (2, 3000) := rfl
theorem ly_117 : layL.getD 117 (9, 0) = (2, 4) := rfl
theorem ly_118 : layL.getD 118 (9, 0) = (2, 4) := rfl
theorem ly_119 : layL.getD 119 (9, 0) = (1, 3000) := rfl
theorem ly_120 : layL.getD 120 (9, 0) = (1, 4096) := rfl
theorem ly_121 : layL.getD 121 (9, 0) = (1, 4096) := rfl
theorem ly_122 : layL.getD 122 (9, 0) = (3, 24) := rfl
theorem ly_123 : layL.getD 123 (9, 0) = (1, 3000) := rfl
theorem ly_124 : layL.getD 124 (9, 0) = (1, 3000) := rfl
theorem ly_125 : layL.getD 125 (9, 0) = (1, 32) := rfl
theorem ly_126 : layL.getD 126 (9, 0) = (1, 3000) := rfl
theorem ly_127 : layL.getD 127 (9, 0) = (1, 32768) := rfl
theorem ly_128 : layL.getD 128 (9, 0) = (1, 48000) := rfl
theorem ly_129 : layL.getD 129 (9, 0) = (1, 96000) := rfl
theorem ly_130 : layL.getD 130 (9, 0) = (3, 6500) := rfl
theorem ly_131 : layL.getD 131 (9, 0) = (3, 26) := rfl
theorem ly_132 : layL.getD 132 (9, 0) = (3, 700) := rfl
theorem ly_133 : layL.getD 133 (9, 0) = (3, 26) := rfl
theorem ly_134 : layL.getD 134 (9, 0) = (1, 624) := rfl
theorem ly_135 : layL.getD 135 (9, 0) = (1, 700) := rfl
theorem ly_136 : layL.getD 136 (9, 0) = (1, 700) := rfl
theorem ly_137 : layL.getD 137 (9, 0) = (1, 2800) := rfl
theorem ly_138 : layL.getD 138 (9, 0) = (1, 130) := rfl
theorem ly_139 : layL.getD 139 (9, 0) = (1, 600) := rfl
theorem ly_140 : layL.getD 140 (9, 0) = (4, 4000) := rfl
theorem ly_141 : layL.getD 141 (9, 0) = (1, 24) := rfl
theorem ly_142 : layL.getD 142 (9, 0) = (3, 192) := rfl
theorem ly_143 : layL.getD 143 (9, 0) = (1, 8) := rfl
theorem ly_144 : layL.getD 144 (9, 0) = (1, 8) := rfl
theorem ly_145 : layL.getD 145 (9, 0) = (1, 24) := rfl
theorem ly_146 : layL.getD 146 (9, 0) = (3, 24) := rfl
theorem ly_147 : layL.getD 147 (9, 0) = (2, 4) := rfl
theorem ly_148 : layL.getD 148 (9, 0) = (1, 260) := rfl
theorem ly_149 : layL.getD 149 (9, 0) = (2, 260) := rfl
theorem ly_150 : layL.getD 150 (9, 0) = (2, 260) := rfl
theorem ly_151 : layL.getD 151 (9, 0) = (2, 1040) := rfl
theorem ly_152 : layL.getD 152 (9, 0) = (1, 26) := rfl
theorem ly_153 : layL.getD 153 (9, 0) = (3, 26) := rfl
theorem ly_154 : layL.getD 154 (9, 0) = (1, 26) := rfl
theorem ly_155 : layL.getD 155 (9, 0) = (1, 13312) := rfl
theorem ly_156 : layL.getD 156 (9, 0) = (1, 26) := rfl
theorem ly_157 : layL.getD 157 (9, 0) = (1, 624) := rfl
theorem ly_158 : layL.getD 158 (9, 0) = (1, 624) := rfl
theorem ly_159 : layL.getD 159 (9, 0) = (1, 2496) := rfl
theorem ly_160 : layL.getD 160 (9, 0) = (1, 16) := rfl
theorem ly_161 : layL.getD 161 (9, 0) = (2, 16) := rfl
theorem ly_162 : layL.getD 162 (9, 0) = (1, 16) := rfl
theorem ly_163 : layL.getD 163 (9, 0) = (1, 16) := rfl
theorem ly_164 : layL.getD 164 (9, 0) = (1, 16) := rfl
theorem ly_165 : layL.getD 165 (9, 0) = (1, 16) := rfl
theorem ly_166 : layL.getD 166 (9, 0) = (1, 14) := rfl
theorem ly_167 : layL.getD 167 (9, 0) = (1, 14) := rfl
theorem ly_168 : layL.getD 168 (9, 0) = (1, 14) := rfl
theorem ly_169 : layL.getD 169 (9, 0) = (1, 14) := rfl
theorem ly_170 : layL.getD 170 (9, 0) = (1, 14) := rfl
theorem ly_171 : layL.getD 171 (9, 0) = (1, 14) := rfl
theorem ly_172 : layL.getD 172 (9, 0) = (1, 14) := rfl
theorem ly_173 : layL.getD 173 (9, 0) = (1, 26) := rfl
theorem ly_174 : layL.getD 174 (9, 0) = (1, 26) := rfl
theorem ly_175 : layL.getD 175 (9, 0) = (1, 3380) := rfl
theorem ly_176 : layL.getD 176 (9, 0) = (1, 3380) := rfl
theorem ly_177 : layL.getD 177 (9, 0) = (2, 3380) := rfl
theorem ly_178 : layL.getD 178 (9, 0) = (1, 3380) := rfl
theorem ly_179 : layL.getD 179 (9, 0) = (1, 26) := rfl
theorem ly_180 : layL.getD 180 (9, 0) = (1, 6760) := rfl
theorem ly_181 : layL.getD 181 (9, 0) = (1, 6760) := rfl
theorem ly_182 : layL.getD 182 (9, 0) = (1, 6760) := rfl
theorem ly_183 : layL.getD 183 (9, 0) = (1, 26) := rfl
theorem ly_184 : layL.getD 184 (9, 0) = (1, 1586) := rfl
theorem ly_185 : layL.getD 185 (9, 0) = (1, 1586) := rfl
theorem ly_186 : layL.getD 186 (9, 0) = (1, 1586) := rfl
theorem ly_187 : layL.getD 187 (9, 0) = (1, 1586) := rfl
theorem ly_188 : layL.getD 188 (9, 0) = (1, 1586) := rfl
theorem ly_189 : layL.getD 189 (9, 0) = (1, 1586) := rfl
theorem ly_190 : layL.getD 190 (9, 0) = (1, 1586) := rfl
theorem ly_191 : layL.getD 191 (9, 0) = (1, 1586) := rfl
theorem ly_192 : layL.getD 192 (9, 0) = (1, 1586) := rfl
theorem ly_193 : layL.getD 193 (9, 0) = (1, 1586) := rfl
theorem ly_194 : layL.getD 194 (9, 0) = (1, 26) := rfl
theorem ly_195 : layL.getD 195 (9, 0) = (1, 6500) := rfl
theorem ly_196 : layL.getD 196 (9, 0) = (1, 6500) := rfl
theorem ly_197 : layL.getD 197 (9, 0) = (1, 6500) := rfl
theorem ly_198 : layL.getD 198 (9, 0) = (1, 6500) := rfl
theorem ly_199 : layL.getD 199 (9, 0) = (1, 26) := rfl
theorem ly_200 : layL.getD 200 (9, 0) = (1, 3146) := rfl
theorem ly_201 : layL.getD 201 (9, 0) = (4, 25168) := rfl
theorem ly_202 : layL.getD 202 (9, 0) = (1, 28) := rfl
theorem ly_203 : layL.getD 203 (9, 0) = (4, 224) := rfl
theorem ly_204 : layL.getD 204 (9, 0) = (1, 2001) := rfl
theorem ly_205 : layL.getD 205 (9, 0) = (1, 2001) := rfl
theorem ly_206 : layL.getD 206 (9, 0) = (1, 2001) := rfl
theorem ly_207 : layL.getD 207 (9, 0) = (1, 2001) := rfl
theorem ly_208 : layL.getD 208 (9, 0) = (4, 2000) := rfl
theorem ly_209 : layL.getD 209 (9, 0) = (4, 25856) := rfl
theorem ly_210 : layL.getD 210 (9, 0) = (4, 24800) := rfl
theorem ly_211 : layL.getD 211 (9, 0) = (1, 2) := rfl
theorem ly_212 : layL.getD 212 (9, 0) = (4, 2000) := rfl
theorem ly_213 : layL.getD 213 (9, 0) = (3, 101) := rfl
theorem ly_214 : layL.getD 214 (9, 0) = (4, 256) := rfl
theorem ly_215 : layL.getD 215 (9, 0) = (4, 24800) := rfl
theorem ly_216 : layL.getD 216 (9, 0) = (2, 1) := rfl
theorem ly_217 : layL.getD 217 (9, 0) = (5, 15) := rfl
theorem rf_0_0 : rfc 0 0 = 1 := rfl
theorem rf_0_1 : rfc 0 1 = 2 := rfl
theorem rf_0_2 : rfc 0 2 = 7 := rfl
theorem rf_0_3 : rfc 0 3 = 18 := rfl
theorem rf_0_4 : rfc 0 4 = 25 := rfl
theorem rf_0_5 : rfc 0 5 = 30 := rfl
theorem rf_0_6 : rfc 0 6 = 31 := rfl
theorem rf_0_7 : rfc 0 7 = 41 := rfl
theorem rf_0_8 : rfc 0 8 = 51 := rfl
theorem rf_0_9 : rfc 0 9 = 60 := rfl
theorem rf_0_10 : rfc 0 10 = 69 := rfl
theorem rf_0_11 : rfc 0 11 = 75 := rfl
theorem rf_2_0 : rfc 2 0 = 3 := rfl
theorem rf_2_1 : rfc 2 1 = 4 := rfl
theorem rf_2_2 : rfc 2 2 = 5 := rfl
theorem rf_2_3 : rfc 2 3 = 6 := rfl
theorem rf_7_0 : rfc 7 0 = 8 := rfl
theorem rf_7_1 : rfc 7 1 = 9 := rfl
theorem rf_7_2 : rfc 7 2 = 10 := rfl
theorem rf_7_3 : rfc 7 3 = 11 := rfl
theorem rf_7_4 : rfc 7 4 = 12 := rfl
theorem rf_7_5 : rfc 7 5 = 13 := rfl
theorem rf_7_6 : rfc 7 6 = 14 := rfl
theorem rf_7_7 : rfc 7 7 = 15 := rfl
theorem rf_7_8 : rfc 7 8 = 16 := rfl
theorem rf_7_9 : rfc 7 9 = 17 := rfl
theorem rf_18_0 : rfc 18 0 = 19 := rfl
theorem rf_18_1 : rfc 18 1 = 20 := rfl
theorem rf_18_2 : rfc 18 2 = 21 := rfl
theorem rf_18_3 : rfc 18 3 = 22 := rfl
theorem rf_18_4 : rfc 18 4 = 23 := rfl
theorem rf_25_0 : rfc 25 0 = 7 := rfl
theorem rf_25_1 : rfc 25 1 = 26 := rfl
theorem rf_25_2 : rfc 25 2 = 27 := rfl
theorem rf_25_3 : rfc 25 3 = 28 := rfl
theorem rf_25_4 : rfc 25 4 = 29 := rfl
theorem rf_30_0 : rfc 30 0 = 18 := rfl
theorem rf_30_1 : rfc 30 1 = 7 := rfl
theorem rf_30_2 : rfc 30 2 = 25 := rfl
theorem rf_31_0 : rfc 31 0 = 7 := rfl
theorem rf_31_1 : rfc 31 1 = 32 := rfl
theorem rf_31_2 : rfc 31 2 = 33 := rfl
theorem rf_31_3 : rfc 31 3 = 34 := rfl
theorem rf_31_4 : rfc 31 4 = 35 := rfl
theorem rf_31_5 : rfc 31 5 = 36 := rfl
theorem rf_31_6 : rfc 31 6 = 37 := rfl
theorem rf_31_7 : rfc 31 7 = 38 := rfl
theorem rf_31_8 : rfc 31 8 = 39 := rfl
theorem rf_31_9 : rfc 31 9 = 40 := rfl
theorem rf_41_0 : rfc 41 0 = 7 := rfl
theorem rf_41_1 : rfc 41 1 = 31 := rfl
theorem rf_41_2 : rfc 41 2 = 42 := rfl
theorem rf_41_3 : rfc 41 3 = 43 := rfl
theorem rf_41_4 : rfc 41 4 = 44 := rfl
theorem rf_41_5 : rfc 41 5 = 45 := rfl
theorem rf_41_6 : rfc 41 6 = 46 := rfl
theorem rf_41_7 : rfc 41 7 = 47 := rfl
theorem rf_41_8 : rfc 41 8 = 48 := rfl
theorem rf_41_9 : rfc 41 9 = 49 := rfl
theorem rf_41_10 : rfc 41 10 = 50 := rfl
theorem rf_51_0 : rfc 51 0 = 31 := rfl
theorem rf_51_1 : rfc 51 1 = 52 := rfl
theorem rf_51_2 : rfc 51 2 = 53 := rfl
theorem rf_51_3 : rfc 51 3 = 54 := rfl
theorem rf_51_4 : rfc 51 4 = 55 := rfl
theorem rf_51_5 : rfc 51 5 = 56 := rfl
theorem rf_51_6 : rfc 51 6 = 57 := rfl
theorem rf_51_7 : rfc 51 7 = 58 := rfl
theorem rf_51_8 : rfc 51 8 = 59 := rfl
theorem rf_60_0 : rfc 60 0 = 61 := rfl
theorem rf_60_1 : rfc 60 1 = 62 := rfl
theorem rf_60_2 : rfc 60 2 = 63 := rfl
theorem rf_60_3 : rfc 60 3 = 64 := rfl
theorem rf_60_4 : rfc 60 4 = 65 := rfl
theorem rf_60_5 : rfc 60 5 = 66 := rfl
theorem rf_60_6 : rfc 60 6 = 67 := rfl
theorem rf_60_7 : rfc 60 7 = 68 := rfl
theorem rf_69_0 : rfc 69 0 = 60 := rfl
theorem rf_69_1 : rfc 69 1 = 70 := rfl
theorem rf_69_2 : rfc 69 2 = 71 := rfl
theorem rf_69_3 : rfc 69 3 = 72 := rfl
theorem rf_69_4 : rfc 69 4 = 73 := rfl
theorem rf_69_5 : rfc 69 5 = 74 := rfl
theorem rf_75_0 : rfc 75 0 = 18 := rfl
theorem rf_75_1 : rfc 75 1 = 7 := rfl
theorem rf_75_2 : rfc 75 2 = 76 := rfl
theorem rf_75_3 : rfc 75 3 = 77 := rfl
theorem rf_75_4 : rfc 75 4 = 78 := rfl
theorem rf_75_5 : rfc 75 5 = 79 := rfl
theorem rf_75_6 : rfc 75 6 = 80 := rfl
theorem rf_75_7 : rfc 75 7 = 81 := rfl
theorem rf_75_8 : rfc 75 8 = 82 := rfl
theorem rf_75_9 : rfc 75 9 = 83 := rfl
theorem rf_84_1 : rfc 84 1 = 208 := rfl
theorem rf_84_3 : rfc 84 3 = 209 := rfl
theorem rf_84_8 : rfc 84 8 = 210 := rfl
theorem rf_84_10 : rfc 84 10 = 211 := rfl
theorem rf_84_11 : rfc 84 11 = 212 := rfl
theorem rf_84_17 : rfc 84 17 = 213 := rfl
theorem rf_84_18 : rfc 84 18 = 214 := rfl
theorem rf_84_19 : rfc 84 19 = 215 := rfl
theorem rf_84_22 : rfc 84 22 = 217 := rfl
theorem rf_84_23 : rfc 84 23 = 207 := rfl
theorem rf_84_24 : rfc 84 24 = 206 := rfl
theorem rf_84_25 : rfc 84 25 = 205 := rfl
theorem rf_84_26 : rfc 84 26 = 204 := rfl
theorem rf_84_34 : rfc 84 34 = 203 := rfl
theorem rf_84_35 : rfc 84 35 = 202 := rfl
theorem rf_84_38 : rfc 84 38 = 201 := rfl
theorem rf_84_39 : rfc 84 39 = 200 := rfl
theorem rf_84_40 : rfc 84 40 = 199 := rfl
theorem rf_84_41 : rfc 84 41 = 198 := rfl
theorem rf_84_42 : rfc 84 42 = 197 := rfl
theorem rf_84_43 : rfc 84 43 = 196 := rfl
theorem rf_84_44 : rfc 84 44 = 195 := rfl
theorem rf_84_45 : rfc 84 45 = 194 := rfl
theorem rf_84_46 : rfc 84 46 = 193 := rfl
theorem rf_84_47 : rfc 84 47 = 192 := rfl
theorem rf_84_48 : rfc 84 48 = 191 := rfl
theorem rf_84_49 : rfc 84 49 = 190 := rfl
theorem rf_84_50 : rfc 84 50 = 189 := rfl
theorem rf_84_51 : rfc 84 51 = 188 := rfl
theorem rf_84_52 : rfc 84 52 = 187 := rfl
theorem rf_84_53 : rfc 84 53 = 186 := rfl
theorem rf_84_54 : rfc 84 54 = 185 := rfl
theorem rf_84_55 : rfc 84 55 = 184 := rfl
theorem rf_84_56 : rfc 84 56 = 183 := rfl
theorem rf_84_57 : rfc 84 57 = 182 := rfl
theorem rf_84_58 : rfc 84 58 = 181 := rfl
theorem rf_84_59 : rfc 84 59 = 180 := rfl
theorem rf_84_60 : rfc 84 60 = 179 := rfl
theorem rf_84_61 : rfc 84 61 = 178 := rfl
theorem rf_84_62 : rfc 84 62 = 177 := rfl
theorem rf_84_63 : rfc 84 63 = 176 := rfl
theorem rf_84_64 : rfc 84 64 = 175 := rfl
theorem rf_84_65 : rfc 84 65 = 174 := rfl
theorem rf_84_68 : rfc 84 68 = 173 := rfl
theorem rf_84_69 : rfc 84 69 = 172 := rfl
theorem rf_84_70 : rfc 84 70 = 171 := rfl
theorem rf_84_71 : rfc 84 71 = 170 := rfl
theorem rf_84_72 : rfc 84 72 = 169 := rfl
theorem rf_84_73 : rfc 84 73 = 168 := rfl
theorem rf_84_74 : rfc 84 74 = 167 := rfl
theorem rf_84_75 : rfc 84 75 = 166 := rfl
theorem rf_84_77 : rfc 84 77 = 165 := rfl
theorem rf_84_78 : rfc 84 78 = 164 := rfl
theorem rf_84_79 : rfc 84 79 = 163 := rfl
theorem rf_84_80 : rfc 84 80 = 162 := rfl
theorem rf_84_81 : rfc 84 81 = 161 := rfl
theorem rf_84_82 : rfc 84 82 = 160 := rfl
theorem rf_84_86 : rfc 84 86 = 159 := rfl
theorem rf_84_87 : rfc 84 87 = 158 := rfl
theorem rf_84_88 : rfc 84 88 = 157 := rfl
theorem rf_84_89 : rfc 84 89 = 156 := rfl
theorem rf_84_90 : rfc 84 90 = 155 := rfl
theorem rf_84_91 : rfc 84 91 = 154 := rfl
theorem rf_84_92 : rfc 84 92 = 153 := rfl
theorem rf_84_93 : rfc 84 93 = 152 := rfl
theorem rf_84_96 : rfc 84 96 = 151 := rfl
theorem rf_84_97 : rfc 84 97 = 150 := rfl
theorem rf_84_98 : rfc 84 98 = 149 := rfl
theorem rf_84_99 : rfc 84 99 = 148 := rfl
theorem rf_84_100 : rfc 84 100 = 147 := rfl
theorem rf_84_103 : rfc 84 103 = 146 := rfl
theorem rf_84_104 : rfc 84 104 = 145 := rfl
theorem rf_84_106 : rfc 84 106 = 144 := rfl
theorem rf_84_107 : rfc 84 107 = 143 := rfl
theorem rf_84_108 : rfc 84 108 = 142 := rfl
theorem rf_84_110 : rfc 84 110 = 141 := rfl
theorem rf_84_111 : rfc 84 111 = 140 := rfl
theorem rf_84_113 : rfc 84 113 = 139 := rfl
theorem rf_84_115 : rfc 84 115 = 138 := rfl
theorem rf_84_116 : rfc 84 116 = 137 := rfl
theorem rf_84_117 : rfc 84 117 = 136 := rfl
theorem rf_84_118 : rfc 84 118 = 135 := rfl
theorem rf_84_120 : rfc 84 120 = 134 := rfl
theorem rf_84_121 : rfc 84 121 = 133 := rfl
theorem rf_84_122 : rfc 84 122 = 132 := rfl
theorem rf_84_123 : rfc 84 123 = 131 := rfl
theorem rf_84_124 : rfc 84 124 = 130 := rfl
theorem rf_84_125 : rfc 84 125 = 129 := rfl
theorem rf_84_126 : rfc 84 126 = 128 := rfl
theorem rf_84_127 : rfc 84 127 = 127 := rfl
theorem rf_84_128 : rfc 84 128 = 126 := rfl
theorem rf_84_130 : rfc 84 130 = 125 := rfl
theorem rf_84_132 : rfc 84 132 = 124 := rfl
theorem rf_84_133 : rfc 84 133 = 123 := rfl
theorem rf_84_134 : rfc 84 134 = 122 := rfl
theorem rf_84_135 : rfc 84 135 = 121 := rfl
theorem rf_84_136 : rfc 84 136 = 120 := rfl
theorem rf_84_137 : rfc 84 137 = 119 := rfl
theorem rf_84_138 : rfc 84 138 = 118 := rfl
theorem rf_84_141 : rfc 84 141 = 117 := rfl
theorem rf_84_143 : rfc 84 143 = 116 := rfl
theorem rf_84_145 : rfc 84 145 = 115 := rfl
theorem rf_84_146 : rfc 84 146 = 114 := rfl
theorem rf_84_147 : rfc 84 147 = 113 := rfl
theorem rf_84_148 : rfc 84 148 = 112 := rfl
theorem rf_84_150 : rfc 84 150 = 111 := rfl
theorem rf_84_151 : rfc 84 151 = 110 := rfl
theorem rf_84_152 : rfc 84 152 = 109 := rfl
theorem rf_84_153 : rfc 84 153 = 108 := rfl
theorem rf_84_154 : rfc 84 154 = 107 := rfl
theorem rf_84_155 : rfc 84 155 = 106 := rfl
theorem rf_84_158 : rfc 84 158 = 105 := rfl
theorem rf_84_159 : rfc 84 159 = 104 := rfl
theorem rf_84_162 : rfc 84 162 = 103 := rfl
theorem rf_84_163 : rfc 84 163 = 102 := rfl
theorem rf_84_165 : rfc 84 165 = 101 := rfl
theorem rf_84_166 : rfc 84 166 = 100 := rfl
theorem rf_84_170 : rfc 84 170 = 99 := rfl
theorem rf_84_172 : rfc 84 172 = 98 := rfl
theorem rf_84_173 : rfc 84 173 = 97 := rfl
theorem rf_84_174 : rfc 84 174 = 96 := rfl
theorem rf_84_181 : rfc 84 181 = 95 := rfl
theorem rf_84_182 : rfc 84 182 = 94 := rfl
theorem rf_84_183 : rfc 84 183 = 93 := rfl
theorem rf_84_184 : rfc 84 184 = 92 := rfl
theorem rf_84_185 : rfc 84 185 = 91 := rfl
theorem rf_84_186 : rfc 84 186 = 90 := rfl
theorem rf_84_188 : rfc 84 188 = 89 := rfl
theorem rf_84_189 : rfc 84 189 = 88 := rfl
theorem rf_84_190 : rfc 84 190 = 87 := rfl
theorem rf_84_191 : rfc 84 191 = 86 := rfl
theorem rf_84_193 : rfc 84 193 = 85 := rfl
