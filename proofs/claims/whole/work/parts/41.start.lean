-- the words of the Statement's start
theorem k_mNF : ∀ q ∈ kNF, Cond.fieldLinkNest q.1 q.2.1 q.2.2.1 q.2.2.2.1 q.2.2.2.2.1 q.2.2.2.2.2 ∈ lw_tbl := by decide +kernel
theorem k_mNM : ∀ q ∈ kNM, Cond.methodLinkNest q.1 q.2.1 q.2.2.1 q.2.2.2 ∈ lw_tbl := by decide +kernel
theorem k_mSt : ∀ q ∈ kSt, Cond.stringRef q.1 q.2.1 q.2.2 ∈ lw_tbl := by decide +kernel
theorem k_mSx : ∀ q ∈ kSt, Cond.exactly (.string q.1 q.2.1) "java/lang/String" ∈ flatC (Jvm.Cond.and given_1 narrow_1) := by decide +kernel
theorem k_mEX : ∀ X ∈ kEX, Cond.castable X X ∈ lw_tbl := by decide +kernel
theorem k_mSU : ∀ X ∈ kSU, Cond.declares (Bundle.initS X) ∈ lw_tbl := by decide +kernel
theorem k_mB : ∀ j, j < 160 → Cond.eq (.elem (.field (.string "IntegerHouse$Lexer" 32) "java/lang/String" "value" "[B") (.int (Int32.ofNat j))) (.int (kBYT.getD j 0)) ∈ flatC (Jvm.Cond.and given_1 narrow_1) := by decide +kernel
theorem k_entry {b : Addr} {s : State} (hts : ∀ w ∈ lw_tbl, w.before #[Value.ref b] s = true) (hgv : (Jvm.Cond.and given_1 narrow_1).before #[Value.ref b] s = true) : ∃ E : kE, E.1 = s.heap.size ∧ kN s ∧ kX E s := by
  have hs := flat_of_before _ hgv
  have hA : ∀ a : Nat, a < s.heap.size → ¬ (fun q : Nat => s.heap.size ≤ q) a := fun a h1 h2 => absurd h1 (Nat.not_lt.mpr h2)
  have h2 := va_Zof (C := "java/lang/String") (n := "COMPACT_STRINGS") (d := "Z") (v := .int 1) (hts (.laysStatic "java/lang/String" "COMPACT_STRINGS" "Z") (by decide +kernel)) (hts (.initialized "java/lang/String") (by decide +kernel)) (va_eqt (hs (.eq (.static "java/lang/String" "COMPACT_STRINGS" "Z") (.int 1)) (by decide +kernel))) hA
  obtain ⟨z, h3⟩ : ∃ z : Option Nat, va_Z "jdk/internal/util/Preconditions" "SIOOBE_FORMATTER" "Ljava/util/function/BiFunction;" (va_rf z) (fun q : Nat => s.heap.size ≤ q) s s.heap := by
    rcases va_Zqof (C := "jdk/internal/util/Preconditions") (n := "SIOOBE_FORMATTER") (d := "Ljava/util/function/BiFunction;") (hts (.laysStatic "jdk/internal/util/Preconditions" "SIOOBE_FORMATTER" "Ljava/util/function/BiFunction;") (by decide +kernel)) (hts (.initialized "jdk/internal/util/Preconditions") (by decide +kernel)) (hs (.isRef (.static "jdk/internal/util/Preconditions" "SIOOBE_FORMATTER" "Ljava/util/function/BiFunction;")) (by decide +kernel)) hA with h | ⟨t, h⟩
    · exact ⟨none, h⟩
    · exact ⟨some t, h⟩
  have h4 : ∀ q ∈ kSt, ∃ a, vk_R q.1 q.2.1 q.2.2 a s ∧ va_O "java/lang/String" a (fun q : Nat => s.heap.size ≤ q) s s.heap := fun q hq => by
    have hex := hs _ (k_mSx q hq)
    obtain ⟨a, c, cA, kA, q1, -⟩ := Cond.exactly_spec (args := #[Value.ref b]) (first := s) (o := none) (s := s) (idx := []) (t := .string q.1 q.2.1) (cls := "java/lang/String") hex
    exact ⟨a, vk_R.of (hts _ (k_mSt q hq)) q1, va_Oof hex q1 hA⟩
  have hex := hs (.exactly (.string "IntegerHouse$Lexer" 32) "java/lang/String") (by decide +kernel)
  obtain ⟨a, c, cA, kA, q1, -⟩ := Cond.exactly_spec (args := #[Value.ref b]) (first := s) (o := none) (s := s) (idx := []) (t := .string "IntegerHouse$Lexer" 32) (cls := "java/lang/String") hex
  obtain ⟨t, ht, hT⟩ := va_Tof (s := s) (args := #[Value.ref b]) (tm := .field (.string "IntegerHouse$Lexer" 32) "java/lang/String" "value" "[B") (ty := .byte) (N := 160) (f := fun j => .int (kBYT.getD j 0)) (A := fun q : Nat => s.heap.size ≤ q) (by decide) (hs _ (by decide +kernel)) (va_eqt (hs (.eq (.length (.field (.string "IntegerHouse$Lexer" 32) "java/lang/String" "value" "[B")) (.int 160)) (by decide +kernel))) (fun j hj => va_eqt (hs _ (k_mB j hj))) hA
  refine ⟨(s.heap.size, a, t, z), rfl, ⟨fun q hq => va_tabs rfl rfl (hts _ (k_mNF q hq)), fun q hq => va_tabs rfl rfl (hts _ (k_mNM q hq))⟩, Nat.le_refl _, h2, h3, h4, ⟨vk_R.of (hts (.stringRef "IntegerHouse$Lexer" 32 kWORDS) (by decide +kernel)) q1, va_Oof hex q1 hA, vk_OFof q1 (va_eqt (hs (.eq (.field (.string "IntegerHouse$Lexer" 32) "java/lang/String" "coder" "B") (.int 0)) (by decide +kernel))) hA, vk_OFof q1 ht hA, hT⟩, va_AO.of (hts (.arrayOver (.object "java/lang/String")) (by decide +kernel)), ?_, ?_, ⟨fun X hX => va_tabs rfl rfl (hts _ (k_mEX X hX)), fun X hX => va_tabs rfl rfl (hts _ (k_mSU X hX))⟩⟩
  · exact vx_Zqof (hts (.laysStatic Bundle.tN "UNASSIGNED_STACK" Bundle.steD) (by decide +kernel)) (hts (.initialized Bundle.tN) (by decide +kernel)) (hs (.isRef (.static Bundle.tN "UNASSIGNED_STACK" Bundle.steD)) (by decide +kernel)) hA
  · exact vx_Zqof (hts (.laysStatic Bundle.tN "SUPPRESSED_SENTINEL" Bundle.listD) (by decide +kernel)) (hts (.initialized Bundle.tN) (by decide +kernel)) (hs (.isRef (.static Bundle.tN "SUPPRESSED_SENTINEL" Bundle.listD)) (by decide +kernel)) hA
