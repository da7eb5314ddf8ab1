-- small rows of this proof: tops that get a plainer word, fields of a list that is changed place by place, arrays of classes that are known, calls with their worlds
section KL
variable {p : Program} {l : Launch} {e : Env} {R : Room} {s : State} {m : MethodId} {args : Array Value} {below : List Frame} {meth : Method} {c : Code} {H : Heap} {locs : List Loc} {cells slots : Nat} {Q : State → Prop}
variable {cc : ByteArray} {pc : Nat} {ls : Array Slot} {rest : List Value} {D : va_G} {cl : List vw_C} {A : Nat → Prop} {tys : List (ClassId × FieldType)} {ws : va_W} {H0 : Heap}
theorem k_topi {x y : Int32} (h : x = y) (k : W p l e R s m args below meth c H locs cells slots Q (F0 m pc ls (.int y :: rest))) : W p l e R s m args below meth c H locs cells slots Q (F0 m pc ls (.int x :: rest)) := by subst h; exact k
theorem k_topl {x y : Int64} (h : x = y) (k : W p l e R s m args below meth c H locs cells slots Q (F0 m pc ls (.long y :: rest))) : W p l e R s m args below meth c H locs cells slots Q (F0 m pc ls (.long x :: rest)) := by subst h; exact k
theorem k_set {α : Type} {f : List α} {i : Nat} {a x : α} (e : f[i]? = some x) : (f.set i a)[i]? = some a := by
  obtain ⟨h, _⟩ := List.getElem?_eq_some_iff.mp e
  exact List.getElem?_set_self h
theorem k_ne {α : Type} {f : List α} {i j : Nat} {a x : α} (h : i ≠ j) (e : f[j]? = some x) : (f.set i a)[j]? = some x := by
  rw [List.getElem?_set_ne h]; exact e
theorem k_len {α : Type} {f : List α} {i : Nat} {x : α} (e : f[i]? = some x) : i < f.length := (List.getElem?_eq_some_iff.mp e).1
theorem k_in {i : Int32} {n : Nat} (h : ¬ (i < 0 ∨ n ≤ i.toNatClampNeg)) : vp_in i n := h
theorem k_lt {x y : Int32} (h : x < y) : x.toInt < y.toInt := Int32.lt_iff_toInt_lt.mp h
/-- a row whose first n places hold v -/
def k_fill (v : Int32) (n : Nat) (f : Nat → Int32) : Nat → Int32 := fun j => if j < n then v else f j
def k_fillL (v : Int64) (n : Nat) (f : Nat → Int64) : Nat → Int64 := fun j => if j < n then v else f j
theorem k_fill_0 (v : Int32) (f : Nat → Int32) : k_fill v 0 f = f := by funext j; simp [k_fill]
theorem k_fillL_0 (v : Int64) (f : Nat → Int64) : k_fillL v 0 f = f := by funext j; simp [k_fillL]
theorem k_fill_1 (v : Int32) (n : Nat) (f : Nat → Int32) : upd (k_fill v n f) n v = k_fill v (n + 1) f := by
  funext j
  by_cases h : j = n
  · subst h; simp [k_fill, upd]
  · have : (j < n + 1) = (j < n) := by apply propext; omega
    simp [k_fill, upd, h, this]
theorem k_fillL_1 (v : Int64) (n : Nat) (f : Nat → Int64) : vp_updL (k_fillL v n f) n v = k_fillL v (n + 1) f := by
  funext j
  by_cases h : j = n
  · subst h; simp [k_fillL, vp_updL]
  · have : (j < n + 1) = (j < n) := by apply propext; omega
    simp [k_fillL, vp_updL, h, this]
def kT (cI cJ cB cZ : ClassId) : List (ClassId × FieldType) := [(cI, .int), (cJ, .long), (cB, .byte), (cZ, .boolean)]
theorem k_ra {U : State} {c1 c2 : ClassId} {ty : FieldType} (h1 : va_RA U c1 ty) (h2 : va_RA U c2 ty) : c1 = c2 := by
  cases ty with
  | object C => exact Option.some.inj (h1.choose_spec.choose_spec.2.2.2.symm.trans h2.choose_spec.choose_spec.2.2.2)
  | _ => exact Option.some.inj (Eq.trans (Eq.symm h1) h2)
theorem k_newa (hexec : p.tables.exec = Jvm.exec) (hb : c.code = cc) {atype : ArrayType} (harr : (Cond.arrayClass (newarray.typeOf atype)).before args s = true) {ty : FieldType} (hty : newarray.typeOf atype = ty) (hK : va_K D cl tys s) (hP : va_P D cl ws H) (hD : va_D A ws) (hS : va_S A H0 H locs) (hA : ∀ q, H0.size ≤ q → A q) (t0 : Nat) {cA : ClassId} (ht : tys[t0]? = some (cA, ty))
    {n : Int32} {N' : Nat} {a0 : vp_A} (ha : ∀ cA : ClassId, vp_cell cA a0 = arrV cA N' (fun _ => defaultValue ty)) (hn : ¬ n < 0) (hN : n.toNatClampNeg = N') (hbytes : N' * componentBytes ty ≤ 536870912) (hcells : cells + 1 ≤ R.cells) (hslots : slots + N' ≤ R.slots) (hdg : decode cc pc = .ok (.newarray atype, 2))
    (kk : ∀ (q : Nat) (H1 : Heap), va_P D cl (ws ++ [(q, .inl (cA, a0))]) H1 → va_D A (ws ++ [(q, .inl (cA, a0))]) → va_S A H0 H1 locs →
      W p l e R s m args below meth c H1 locs (cells + 1) (slots + N') Q (F0 m (pc + 2) ls (.ref q :: rest))) : W p l e R s m args below meth c H locs cells slots Q (F0 m pc ls (.int n :: rest)) := by
  refine va_newa hexec hb harr hty hK hP hD hS hA ha hn hN hbytes hcells hslots hdg fun q cB H1 hK1 hP1 hD1 hS1 => ?_
  have h2 := (hK1.2 tys.length (cB, ty) (by rw [List.getElem?_append_right (Nat.le_refl _), Nat.sub_self]; rfl)).2
  have h3 := k_ra (hK.2 t0 _ ht).2 h2
  subst h3
  exact kk q H1 hP1 hD1 hS1
end KL
/-- the links between classes of one nest -/
def kN (U : State) : Prop := (∀ q ∈ kNF, va_Nw (.fieldLinkNest q.1 q.2.1 q.2.2.1 q.2.2.2.1 q.2.2.2.2.1 q.2.2.2.2.2) U) ∧ ∀ q ∈ kNM, va_Nw (.methodLinkNest q.1 q.2.1 q.2.2.1 q.2.2.2) U
theorem kN.warm {s U : State} (hW : s.WarmedH U.vm) (h : kN s) : kN U := ⟨fun q hq => va_Nw.warmF hW (h.1 q hq), fun q hq => va_Nw.warmM hW (h.2 q hq)⟩
theorem kN.same {u U : State} (e : u.vm = U.vm) (h : kN u) : kN U := ⟨fun q hq => va_Nw.same rfl e (h.1 q hq), fun q hq => va_Nw.same rfl e (h.2 q hq)⟩
/-- what was there before all: where new cells begin, the address of Lexer's text and of its bytes, what a static of Preconditions holds -/
abbrev kE : Type := Nat × Nat × Nat × Option Nat × (Nat → Nat) × (Nat → Nat)
def kA (E : kE) : Nat → Prop := fun q => E.1 ≤ q
def kW (E : kE) (U : State) : Prop := vk_R "IntegerHouse$Lexer" 32 kWORDS E.2.1 U ∧ va_O "java/lang/String" E.2.1 (kA E) U U.heap ∧ va_OF "java/lang/String" "coder" "B" (.int 0) E.2.1 (kA E) U U.heap ∧ va_OF "java/lang/String" "value" "[B" (.ref E.2.2.1) E.2.1 (kA E) U U.heap ∧ va_T .byte E.2.2.1 160 (fun j => .int (kBYT.getD j 0)) (kA E) U U.heap
def kEX : List String := ["java/lang/IllegalStateException", "java/lang/IllegalArgumentException", "java/lang/IndexOutOfBoundsException"]
def kSU : List String := ["java/lang/RuntimeException", "java/lang/Exception", "java/lang/Throwable"]
def kZ (U : State) : Prop := (∀ X ∈ kEX, va_Nw (.castable X X) U) ∧ ∀ X ∈ kSU, va_Nw (.declares (Bundle.initS X)) U
theorem kZ.warm {s U : State} (hW : s.WarmedH U.vm) (h : kZ s) : kZ U := ⟨fun q hq => va_Nw.warmC hW (h.1 q hq), fun q hq => va_Nw.warmD hW (h.2 q hq)⟩
/-- the texts of the programs: where they lie (from 1000 on, their bytes from 2000 on), and their bytes -/
def kQ (E : kE) (U : State) : Prop := ∀ q ∈ kSq, vk_R q.2.1 q.2.2.1 q.2.2.2.1 (E.2.2.2.2.1 q.1) U ∧ va_O "java/lang/String" (E.2.2.2.2.1 q.1) (kA E) U U.heap ∧ va_OF "java/lang/String" "coder" "B" (.int 0) (E.2.2.2.2.1 q.1) (kA E) U U.heap ∧ va_OF "java/lang/String" "value" "[B" (.ref (E.2.2.2.2.2 q.1)) (E.2.2.2.2.1 q.1) (kA E) U U.heap ∧ va_T .byte (E.2.2.2.2.2 q.1) q.2.2.2.2.1 (fun j => .int (q.2.2.2.2.2.getD j 0)) (kA E) U U.heap
theorem kZ.same {u U : State} (e : u.vm = U.vm) (h : kZ u) : kZ U := ⟨fun q hq => va_Nw.same rfl e (h.1 q hq), fun q hq => va_Nw.same rfl e (h.2 q hq)⟩
def kX (E : kE) (U : State) : Prop := E.1 ≤ U.heap.size ∧ va_Z "java/lang/String" "COMPACT_STRINGS" "Z" (.int 1) (kA E) U U.heap ∧ va_Z "jdk/internal/util/Preconditions" "SIOOBE_FORMATTER" "Ljava/util/function/BiFunction;" (va_rf E.2.2.2.1) (kA E) U U.heap ∧ (∀ q ∈ kSt, ∃ a, vk_R q.1 q.2.1 q.2.2 a U ∧ va_O "java/lang/String" a (kA E) U U.heap) ∧ kW E U ∧ va_AO "java/lang/String" U ∧ vx_Zq Bundle.tN "UNASSIGNED_STACK" Bundle.steD (kA E) U U.heap ∧ vx_Zq Bundle.tN "SUPPRESSED_SENTINEL" Bundle.listD (kA E) U U.heap ∧ kZ U ∧ kQ E U
theorem kX.call {E : kE} {A : Nat → Prop} {s U : State} {H : Heap} {locs : List Loc} (h : kX E s) (hAE : ∀ q, A q → E.1 ≤ q) (hS : va_S A s.heap H locs) (hU : U.heap = H) (hW : s.WarmedH U.vm) : kX E U := by
  have hq : ∀ a : Nat, a < s.heap.size → ¬ kA E a → H[a]? = s.heap[a]? := fun a h1 h2 => hS.2.1 a h1 (fun z => h2 (hAE a z))
  obtain ⟨h1, h2, h3, h4, ⟨h5, h6, h7, h8, h9⟩, h10, h11, h12, h13⟩ := h
  refine ⟨by rw [hU]; exact Nat.le_trans h1 hS.1, by rw [hU]; exact (h2.kept hq).moved hW.alike, by rw [hU]; exact (h3.kept hq).moved hW.alike, fun q z => ?_, ⟨vk_R.warm hW h5, by rw [hU]; exact (h6.kept hq).moved hW.alike, by rw [hU]; exact (h7.kept hq).moved hW.alike, by rw [hU]; exact (h8.kept hq).moved hW.alike, by rw [hU]; exact (h9.kept hq).moved hW.alike⟩, h10.moved hW.alike, by rw [hU]; exact (h11.kept hq).moved hW.alike, by rw [hU]; exact (h12.kept hq).moved hW.alike, h13.1.warm hW, fun q z => ⟨vk_R.warm hW (h13.2 q z).1, by rw [hU]; exact ((h13.2 q z).2.1.kept hq).moved hW.alike, by rw [hU]; exact ((h13.2 q z).2.2.1.kept hq).moved hW.alike, by rw [hU]; exact ((h13.2 q z).2.2.2.1.kept hq).moved hW.alike, by rw [hU]; exact ((h13.2 q z).2.2.2.2.kept hq).moved hW.alike⟩⟩
  obtain ⟨a, ha, hb⟩ := h4 q z
  exact ⟨a, vk_R.warm hW ha, by rw [hU]; exact (hb.kept hq).moved hW.alike⟩
theorem kX.same {E : kE} {u U : State} (hv : U.vm = u.vm) (hh : U.heap = u.heap) (h : kX E u) : kX E U := by
  have al : u.vm.Alike U.vm := by rw [hv]; exact Vm.Alike.refl u.vm
  obtain ⟨h1, h2, h3, h4, ⟨h5, h6, h7, h8, h9⟩, h10, h11, h12, h13⟩ := h
  refine ⟨by rw [hh]; exact h1, by rw [hh]; exact h2.moved al, by rw [hh]; exact h3.moved al, fun q z => ?_, ⟨vk_R.same hv h5, by rw [hh]; exact h6.moved al, by rw [hh]; exact h7.moved al, by rw [hh]; exact h8.moved al, by rw [hh]; exact h9.moved al⟩, h10.moved al, by rw [hh]; exact h11.moved al, by rw [hh]; exact h12.moved al, h13.1.same hv.symm, fun q z => ⟨vk_R.same hv (h13.2 q z).1, by rw [hh]; exact (h13.2 q z).2.1.moved al, by rw [hh]; exact (h13.2 q z).2.2.1.moved al, by rw [hh]; exact (h13.2 q z).2.2.2.1.moved al, by rw [hh]; exact (h13.2 q z).2.2.2.2.moved al⟩⟩
  obtain ⟨a, ha, hb⟩ := h4 q z
  exact ⟨a, vk_R.same hv ha, by rw [hh]; exact hb.moved al⟩
theorem kX.cs {E : kE} {A : Nat → Prop} {s : State} (h : kX E s) (hAE : ∀ q, A q → E.1 ≤ q) : va_Z "java/lang/String" "COMPACT_STRINGS" "Z" (.int 1) A s s.heap := h.2.1.narrow hAE
theorem kX.si {E : kE} {A : Nat → Prop} {s : State} (h : kX E s) (hAE : ∀ q, A q → E.1 ≤ q) : va_Z "jdk/internal/util/Preconditions" "SIOOBE_FORMATTER" "Ljava/util/function/BiFunction;" (va_rf E.2.2.2.1) A s s.heap := h.2.2.1.narrow hAE
theorem kX.st {E : kE} {A : Nat → Prop} {s : State} (h : kX E s) (hAE : ∀ q, A q → E.1 ≤ q) (q : String × Nat × String) (hq : q ∈ kSt) : ∃ a, vk_R q.1 q.2.1 q.2.2 a s ∧ va_O "java/lang/String" a A s s.heap := (h.2.2.2.1 q hq).imp fun a z => ⟨z.1, z.2.narrow hAE⟩
theorem kX.wr {E : kE} {s : State} (h : kX E s) : vk_R "IntegerHouse$Lexer" 32 kWORDS E.2.1 s := h.2.2.2.2.1.1
theorem kX.wo {E : kE} {A : Nat → Prop} {s : State} (h : kX E s) (hAE : ∀ q, A q → E.1 ≤ q) : va_O "java/lang/String" E.2.1 A s s.heap := h.2.2.2.2.1.2.1.narrow hAE
theorem kX.wc {E : kE} {A : Nat → Prop} {s : State} (h : kX E s) (hAE : ∀ q, A q → E.1 ≤ q) : va_OF "java/lang/String" "coder" "B" (.int 0) E.2.1 A s s.heap := h.2.2.2.2.1.2.2.1.narrow hAE
theorem kX.wv {E : kE} {A : Nat → Prop} {s : State} (h : kX E s) (hAE : ∀ q, A q → E.1 ≤ q) : va_OF "java/lang/String" "value" "[B" (.ref E.2.2.1) E.2.1 A s s.heap := h.2.2.2.2.1.2.2.2.1.narrow hAE
theorem kX.wb {E : kE} {A : Nat → Prop} {s : State} (h : kX E s) (hAE : ∀ q, A q → E.1 ≤ q) : va_T .byte E.2.2.1 160 (fun j => .int (kBYT.getD j 0)) A s s.heap := h.2.2.2.2.1.2.2.2.2.narrow hAE
theorem kX.ao {E : kE} {s : State} (h : kX E s) : va_AO "java/lang/String" s := h.2.2.2.2.2.1
theorem kX.us {E : kE} {A : Nat → Prop} {s : State} (h : kX E s) (hAE : ∀ q, A q → E.1 ≤ q) : vx_Zq Bundle.tN "UNASSIGNED_STACK" Bundle.steD A s s.heap := h.2.2.2.2.2.2.1.narrow hAE
theorem kX.ss {E : kE} {A : Nat → Prop} {s : State} (h : kX E s) (hAE : ∀ q, A q → E.1 ≤ q) : vx_Zq Bundle.tN "SUPPRESSED_SENTINEL" Bundle.listD A s s.heap := h.2.2.2.2.2.2.2.1.narrow hAE
theorem kX.cast {E : kE} {s : State} (h : kX E s) (X : String) (hX : X ∈ kEX) : va_Nw (.castable X X) s := h.2.2.2.2.2.2.2.2.1.1 X hX
theorem kX.decl {E : kE} {s : State} (h : kX E s) (X : String) (hX : X ∈ kSU) : va_Nw (.declares (Bundle.initS X)) s := h.2.2.2.2.2.2.2.2.1.2 X hX
theorem kX.tr {E : kE} {s : State} (h : kX E s) (q : Nat × String × Nat × String × Nat × List Int32) (hq : q ∈ kSq) : vk_R q.2.1 q.2.2.1 q.2.2.2.1 (E.2.2.2.2.1 q.1) s := (h.2.2.2.2.2.2.2.2.2 q hq).1
theorem kX.to {E : kE} {A : Nat → Prop} {s : State} (h : kX E s) (hAE : ∀ q, A q → E.1 ≤ q) (q : Nat × String × Nat × String × Nat × List Int32) (hq : q ∈ kSq) : va_O "java/lang/String" (E.2.2.2.2.1 q.1) A s s.heap := (h.2.2.2.2.2.2.2.2.2 q hq).2.1.narrow hAE
theorem kX.tc {E : kE} {A : Nat → Prop} {s : State} (h : kX E s) (hAE : ∀ q, A q → E.1 ≤ q) (q : Nat × String × Nat × String × Nat × List Int32) (hq : q ∈ kSq) : va_OF "java/lang/String" "coder" "B" (.int 0) (E.2.2.2.2.1 q.1) A s s.heap := (h.2.2.2.2.2.2.2.2.2 q hq).2.2.1.narrow hAE
theorem kX.tv {E : kE} {A : Nat → Prop} {s : State} (h : kX E s) (hAE : ∀ q, A q → E.1 ≤ q) (q : Nat × String × Nat × String × Nat × List Int32) (hq : q ∈ kSq) : va_OF "java/lang/String" "value" "[B" (.ref (E.2.2.2.2.2 q.1)) (E.2.2.2.2.1 q.1) A s s.heap := (h.2.2.2.2.2.2.2.2.2 q hq).2.2.2.1.narrow hAE
theorem kX.tb {E : kE} {A : Nat → Prop} {s : State} (h : kX E s) (hAE : ∀ q, A q → E.1 ≤ q) (q : Nat × String × Nat × String × Nat × List Int32) (hq : q ∈ kSq) : va_T .byte (E.2.2.2.2.2 q.1) q.2.2.2.2.1 (fun j => .int (q.2.2.2.2.2.getD j 0)) A s s.heap := (h.2.2.2.2.2.2.2.2.2 q hq).2.2.2.2.narrow hAE
theorem k_any {C : String} {a : Nat} {A : Nat → Prop} {s : State} {H : Heap} {locs : List Loc} (h : va_O C a A s s.heap) (hS : va_S A s.heap H locs) : va_Any C s H a := by
  obtain ⟨cell, h1, h2, h3⟩ := va_Orecv h hS
  obtain ⟨kC, hkC, -⟩ := Vm.findClass_spec h3
  refine ⟨cell, h1, h2, ⟨kC, hkC⟩, fun comp h => ?_⟩
  rw [h3] at h
  cases h
  exact va_asg _ _
/-- a method's start and its end, in cells -/
def kPc (E : kE) (D : va_G) (tys : List (ClassId × FieldType)) (av : List Value) (sz : Nat) (w : va_W) : Array Value → State → Prop := va_Pc av (fun U => U.heap.size = sz ∧ va_P D vwCl w U.heap ∧ va_K D vwCl tys U ∧ va_D (kA E) w ∧ kN U ∧ kX E U)
def kB {S : Type} (D : va_G) (tys : List (ClassId × FieldType)) (A : Nat → Prop) (w1 : S → va_W) : S → State → Prop := fun u t => va_P D vwCl (w1 u) t.heap ∧ va_K D vwCl tys t ∧ va_D A (w1 u)
def kI (l : Launch) (E : kE) (D : va_G) (tys : List (ClassId × FieldType)) (y : MethodName) (ws : List Cond) (rm : Room) (av : List Value) (w : va_W) (r : Int32) (w1 : va_W) (mc ms : Nat) : Prop := ∀ sz, Met l y ws rm (kPc E D tys av sz w) (va_Qi (fun x (_ : Unit) => x = r) (kB D tys (va_A w sz) (fun _ => w1)) (va_A w sz)) mc ms (va_A w sz)
def kJ (l : Launch) (E : kE) (D : va_G) (tys : List (ClassId × FieldType)) (y : MethodName) (ws : List Cond) (rm : Room) (av : List Value) (w : va_W) (r : Int64) (w1 : va_W) (mc ms : Nat) : Prop := ∀ sz, Met l y ws rm (kPc E D tys av sz w) (va_Ql (fun x (_ : Unit) => x = r) (kB D tys (va_A w sz) (fun _ => w1)) (va_A w sz)) mc ms (va_A w sz)
def kV {S : Type} (l : Launch) (E : kE) (D : va_G) (tys : List (ClassId × FieldType)) (y : MethodName) (ws : List Cond) (rm : Room) (av : List Value) (w : va_W) (w1 : S → va_W) (mc ms : Nat) : Prop := ∀ sz, Met l y ws rm (kPc E D tys av sz w) (va_Qv (fun (_ : S) => True) (kB D tys (va_A w sz) w1) (va_A w sz)) mc ms (va_A w sz)
theorem kPc_blind {E : kE} {D : va_G} {tys : List (ClassId × FieldType)} {av : List Value} {sz : Nat} {w : va_W} : FrameBlind (kPc E D tys av sz w) := fun a U g mk q => by
  obtain ⟨q0, q1, qP, qK, qD, qN, qX⟩ := q
  exact ⟨q0, q1, qP, va_K.moved (u := U) (U := U.calling g mk a) (Vm.Alike.refl U.vm) qK, qD, kN.same (u := U) (U := U.calling g mk a) rfl qN, kX.same (u := U) (U := U.calling g mk a) rfl rfl qX⟩
theorem kB_mk {S : Type} {D : va_G} {tys : List (ClassId × FieldType)} {A : Nat → Prop} {w1 : S → va_W} {u : S} {s t : State} {H : Heap} (ht : t.heap = H) (hW : s.WarmedH t.vm) (hP : va_P D vwCl (w1 u) H) (hK : va_K D vwCl tys s) (hD : va_D A (w1 u)) : kB D tys A w1 u t := ⟨by rw [ht]; exact hP, va_K.moved hW.alike hK, hD⟩
theorem k_AE {E : kE} {W0 : va_W} {s : State} (hD : va_D (kA E) W0) (hX : kX E s) : ∀ q, va_A W0 s.heap.size q → E.1 ≤ q := fun q h => by
  rcases h with ⟨k, e, h⟩ | h
  · exact hD.2 k (q, e) h
  · exact Nat.le_trans hX.1 h
theorem k_cpy1L {f g : Nat → Int64} {v : Int64} (e : f 0 = v) : va_cpy f g 0 0 1 = vp_updL g 0 v := by
  funext k
  by_cases h : k = 0
  · subst h; simp [va_cpy, vp_updL, e]
  · have : ¬ k < 1 := by omega
    simp [va_cpy, vp_updL, h, this]
section KLoop
variable {p : Program} {l : Launch} {e : Env} {R : Room} {s : State} {m : MethodId} {args : Array Value} {below : List Frame} {meth : Method} {c : Code} {cells slots pc : Nat} {Q : State → Prop}
theorem k_loopW {P : Nat → Heap → List Loc → Array Slot → Prop} (N : Nat)
    (step : ∀ i H locs ls, i < N → P i H locs ls → (∀ H' locs' ls', P (i + 1) H' locs' ls' → W p l e R s m args below meth c H' locs' cells slots Q (F0 m pc ls' [])) → W p l e R s m args below meth c H locs cells slots Q (F0 m pc ls []))
    (done : ∀ H locs ls, P N H locs ls → W p l e R s m args below meth c H locs cells slots Q (F0 m pc ls [])) {i : Nat} (hi : i ≤ N) {H : Heap} {locs : List Loc} {ls : Array Slot} (h : P i H locs ls) : W p l e R s m args below meth c H locs cells slots Q (F0 m pc ls []) := by
  obtain ⟨n, hn⟩ : ∃ n, i + n = N := ⟨N - i, by omega⟩
  induction n generalizing i H locs ls with
  | zero =>
    have e : i = N := by omega
    subst e
    exact done H locs ls h
  | succ n ih => exact step i H locs ls (by omega) h (fun H' locs' ls' h' => ih (by omega) h' (by omega))
end KLoop
/-- conditions in a plain form -/
theorem k_n1 {x c d : Int32} (h : c.toInt + 1 = d.toInt) : x ≤ c ↔ x < d := by rw [Int32.le_iff_toInt_le, Int32.lt_iff_toInt_lt]; omega
theorem k_n2 {x c : Int32} : c ≤ x ↔ ¬ x < c := by rw [Int32.le_iff_toInt_le, Int32.lt_iff_toInt_lt]; omega
theorem k_n3 {x c d : Int32} (h : c.toInt + 1 = d.toInt) : c < x ↔ ¬ x < d := by rw [Int32.lt_iff_toInt_lt, Int32.lt_iff_toInt_lt]; omega
theorem k_cmp0 {X C : Int64} : lg_cmp X C < 0 ↔ X < C := by
  unfold lg_cmp
  rw [Int64.lt_iff_toInt_lt]
  by_cases h1 : X > C
  · have h2 := Int64.lt_iff_toInt_lt.mp h1
    rw [if_pos h1]
    exact ⟨fun z => absurd z (by decide), fun z => absurd z (by omega)⟩
  · rw [if_neg h1]
    have h2 : ¬ C.toInt < X.toInt := fun z => h1 (Int64.lt_iff_toInt_lt.mpr z)
    by_cases h3 : X = C
    · rw [if_pos h3]
      exact ⟨fun z => absurd z (by decide), fun z => absurd z (by rw [h3]; omega)⟩
    · rw [if_neg h3]
      have h4 : X.toInt ≠ C.toInt := fun z => h3 (Int64.toInt_inj.mp z)
      exact ⟨fun _ => by omega, fun _ => by decide⟩
theorem k_cmp1 {X C : Int64} : 0 < lg_cmp X C ↔ C < X := by
  unfold lg_cmp
  rw [Int64.lt_iff_toInt_lt]
  by_cases h1 : X > C
  · have h2 := Int64.lt_iff_toInt_lt.mp h1
    rw [if_pos h1]
    exact ⟨fun _ => h2, fun _ => by decide⟩
  · rw [if_neg h1]
    have h2 : ¬ C.toInt < X.toInt := fun z => h1 (Int64.lt_iff_toInt_lt.mpr z)
    by_cases h3 : X = C
    · rw [if_pos h3]
      exact ⟨fun z => absurd z (by decide), fun z => absurd z h2⟩
    · rw [if_neg h3]
      exact ⟨fun z => absurd z (by decide), fun z => absurd z h2⟩
theorem k_n4 {x c : Int32} {C : Int64} (h : Int32.toInt64 c = C) : lg_cmp (Int32.toInt64 x) C < 0 ↔ x < c := by
  rw [k_cmp0, ← h, Int64.lt_iff_toInt_lt, Int32.lt_iff_toInt_lt, Int32.toInt_toInt64, Int32.toInt_toInt64]
theorem k_n5 {x c d : Int32} {C : Int64} (h : Int32.toInt64 c = C) (hd : c.toInt + 1 = d.toInt) : 0 < lg_cmp (Int32.toInt64 x) C ↔ ¬ x < d := by
  rw [k_cmp1, ← h, Int64.lt_iff_toInt_lt, Int32.lt_iff_toInt_lt, Int32.toInt_toInt64, Int32.toInt_toInt64]; omega
/-- worlds in another order -/
theorem k_dN {A : Nat → Prop} {ws : va_W} (h : va_D A ws) : (ws.map Prod.fst).Nodup := by
  rw [List.Nodup, List.pairwise_iff_getElem]
  intro i j hi hj hij e
  rw [List.length_map] at hi hj
  rw [List.getElem_map, List.getElem_map] at e
  have := h.1 i j _ _ (List.getElem?_eq_getElem hi) (List.getElem?_eq_getElem hj) e
  omega
theorem k_dO {A : Nat → Prop} {ws : va_W} (h1 : (ws.map Prod.fst).Nodup) (h2 : ∀ x ∈ ws, A x.1) : va_D A ws := by
  refine ⟨fun i j p q hi hj e => ?_, fun k q hk => h2 q (List.mem_of_getElem? hk)⟩
  obtain ⟨hi', rfl⟩ := List.getElem?_eq_some_iff.mp hi
  obtain ⟨hj', rfl⟩ := List.getElem?_eq_some_iff.mp hj
  rw [List.Nodup, List.pairwise_iff_getElem] at h1
  rcases Nat.lt_trichotomy i j with h | h | h
  · exact absurd (by rw [List.getElem_map, List.getElem_map]; exact e) (h1 i j (by rw [List.length_map]; exact hi') (by rw [List.length_map]; exact hj') h)
  · exact h
  · exact absurd (by rw [List.getElem_map, List.getElem_map]; exact e.symm) (h1 j i (by rw [List.length_map]; exact hj') (by rw [List.length_map]; exact hi') h)
theorem k_permP {D : va_G} {cl : List vw_C} {ws ws' : va_W} {H : Heap} (h : ws.Perm ws') (hP : va_P D cl ws H) : va_P D cl ws' H := fun k q hk => by
  have hm : q ∈ ws := h.mem_iff.mpr (List.mem_of_getElem? hk)
  obtain ⟨i, hi⟩ := List.getElem?_of_mem hm
  exact hP i q hi
theorem k_permD {A : Nat → Prop} {ws ws' : va_W} (h : ws.Perm ws') (hD : va_D A ws) : va_D A ws' := k_dO ((h.map Prod.fst).nodup_iff.mp (k_dN hD)) (fun x hx => by
  obtain ⟨i, hi⟩ := List.getElem?_of_mem (h.mem_iff.mpr hx)
  exact hD.2 i x hi)
theorem k_snocP {D : va_G} {cl : List vw_C} {x y : Nat × va_E} {W1 : va_W} {H : Heap} (h : va_P D cl ((x :: W1) ++ [y]) H) : va_P D cl (x :: y :: W1) H := k_permP ((List.perm_append_singleton y W1).cons x) h
theorem k_snocD {A : Nat → Prop} {x y : Nat × va_E} {W1 : va_W} (h : va_D A ((x :: W1) ++ [y])) : va_D A (x :: y :: W1) := k_permD ((List.perm_append_singleton y W1).cons x) h
theorem k_rng (x : Nat × va_E) (W1 : va_W) : (List.range' 1 W1.length).map (fun i => (x :: W1)[i]?) = W1.map some := by
  apply List.ext_getElem?
  intro i
  rw [List.getElem?_map, List.getElem?_map]
  by_cases h : i < W1.length
  · rw [List.getElem?_range' h, List.getElem?_eq_getElem h]
    simp [Nat.add_comm 1 i, h]
  · rw [List.getElem?_eq_none (by simp; omega), List.getElem?_eq_none (by omega)]; rfl
theorem k_rngnd : ∀ (n k : Nat), va_nd (List.range' k n) = true
  | 0, _ => rfl
  | n + 1, k => by
    rw [List.range'_succ, va_nd, k_rngnd n (k + 1), Bool.and_true, decide_eq_true_eq, List.mem_range'_1]
    omega
section KC
variable {p : Program} {l : Launch} {e : Env} {R : Room} {s : State} {m : MethodId} {args : Array Value} {below : List Frame} {meth : Method} {c : Code} {H : Heap} {locs : List Loc} {cells slots : Nat} {Q : State → Prop}
variable {cc bytes : ByteArray} {pc nL maxL index n mc ms : Nat} {ls : Array Slot} {rest As : List Value} {D : va_G} {A : Nat → Prop} {tys : List (ClassId × FieldType)} {ws wc wr : va_W} {own C : String} {Ts wy : List Cond} {y : MethodName} {rm : Room} {ret : Option FieldType} {b : Nat}
/-- the worlds of a call: cut out, joined again -/
theorem k_after {w1 : va_W} {H1 : Heap} (hP : va_P D vwCl ws H) (hD : va_D A ws) (hS : va_S A s.heap H locs) (hA : ∀ q, s.heap.size ≤ q → A q) (isC isR : List Nat) (hC : isC.map (fun i => ws[i]?) = wc.map some) (hR : isR.map (fun i => ws[i]?) = wr.map some) (hn : va_nd isR = true) (hdis : ∀ i ∈ isR, i ∉ isC)
    (hk : ∀ q : Nat, q < H.size → ¬ va_A wc H.size q → H1[q]? = H[q]?) (hP1 : va_P D vwCl w1 H1) (hD1 : va_D (va_A wc H.size) w1) : va_P D vwCl (wr ++ w1) H1 ∧ va_D A (wr ++ w1) :=
  va_join hP hD isC isR hC hR hn hdis hk (va_free hD hS hA isC hC) hP1 hD1
theorem k_cut (hP : va_P D vwCl ws H) (isC : List Nat) (hC : isC.map (fun i => ws[i]?) = wc.map some) : va_P D vwCl wc H := by
  intro k q hq
  have h1 : (isC.map (fun i => ws[i]?))[k]? = some (some q) := by rw [hC, List.getElem?_map, hq]; rfl
  rw [List.getElem?_map] at h1
  cases hi : isC[k]? with
  | none => rw [hi] at h1; cases h1
  | some i => rw [hi] at h1; exact hP i q (Option.some.inj h1)
theorem k_pre {E : kE} (hN : kN s) (hX : kX E s) (hAE : ∀ q, A q → E.1 ≤ q) (hK : va_K D vwCl tys s) (hP : va_P D vwCl ws H) (hD : va_D A ws) (hS : va_S A s.heap H locs) (isC : List Nat) (hC : isC.map (fun i => ws[i]?) = wc.map some) (hn : va_nd isC = true) (av : List Value) : FrameBlind (kPc E D tys av H.size wc) ∧ ∀ U : State, U.heap = H → s.WarmedH U.vm → kPc E D tys av H.size wc av.toArray U :=
  ⟨kPc_blind, fun U hU hW => ⟨rfl, by rw [hU], by rw [hU]; exact k_cut hP isC hC, va_K.moved hW.alike hK, (hD.sub isC hn hC).weaken (fun _ _ _ h => hAE _ h), kN.warm hW hN, hX.call hAE hS hU hW⟩⟩
theorem k_cVi {r : Int32} {w1 : va_W} (S : CallFix p m c cc nL s args Ts own) {E : kE} (hN : kN s) (hX : kX E s) (hAE : ∀ q, A q → E.1 ≤ q) (hK : va_K D vwCl tys s) (hP : va_P D vwCl ws H) (hD : va_D A ws) (hS : va_S A s.heap H locs) (hA : ∀ q, s.heap.size ≤ q → A q) (isC isR : List Nat) {ci : Nat} {fs : List Value} {q : vw_C} (hc : vwCl[ci]? = some q) (hC : isC.map (fun i => ws[i]?) = wc.map some) (hq0 : wc[0]? = some (b, .inr (ci, fs))) (hR : isR.map (fun i => ws[i]?) = wr.map some) (hnc : va_nd isC = true) (hn : va_nd isR = true) (hdis : ∀ i ∈ isR, i ∉ isC)
    (hM : kI l E D tys y wy rm (.ref b :: As) wc r w1 mc ms) (cw : CallW R s args own q.1 index y bytes maxL ret wy rm mc ms n) (hlen : As.length = n) (hsize : ls.size = nL) (hW : (rest.map fun v => v.category).sum ≤ 8) (hdg : decode cc pc = .ok (.invokevirtual index, 3)) (hf : cells + mc ≤ R.cells ∧ slots + ms ≤ R.slots)
    (kk : ∀ (H1 : Heap) (locs1 : List Loc), va_P D vwCl (wr ++ w1) H1 → va_D A (wr ++ w1) → va_S A s.heap H1 locs1 → W p l e R s m args below meth c H1 locs1 (cells + mc) (slots + ms) Q (F0 m (pc + 3) ls (.int r :: rest))) : W p l e R s m args below meth c H locs cells slots Q (F0 m pc ls (As.reverse ++ .ref b :: rest)) := by
  obtain ⟨h1, h2⟩ := k_pre hN hX hAE hK hP hD hS isC hC hnc (.ref b :: As)
  refine va_calli (va_runV (As := As) (rest := rest) S (hM H.size) cw ⟨h1, va_recv hK (k_cut hP isC hC) hc hq0, h2⟩ rfl hlen hsize rfl (lv_room hW) hdg hf) hS (fun q _ h => va_free hD hS hA isC hC q h) (va_free hD hS hA isC hC) (fun x u t H1 locs1 ht hvm hw hB hz1 hk1 hS1 => ?_)
  subst hw
  obtain ⟨hP1, -, hD1⟩ := hB
  rw [ht] at hP1
  obtain ⟨g1, g2⟩ := k_after hP hD hS hA isC isR hC hR hn hdis hk1 hP1 hD1
  exact kk H1 locs1 g1 g2 hS1
theorem k_cVl {r : Int64} {w1 : va_W} (S : CallFix p m c cc nL s args Ts own) {E : kE} (hN : kN s) (hX : kX E s) (hAE : ∀ q, A q → E.1 ≤ q) (hK : va_K D vwCl tys s) (hP : va_P D vwCl ws H) (hD : va_D A ws) (hS : va_S A s.heap H locs) (hA : ∀ q, s.heap.size ≤ q → A q) (isC isR : List Nat) {ci : Nat} {fs : List Value} {q : vw_C} (hc : vwCl[ci]? = some q) (hC : isC.map (fun i => ws[i]?) = wc.map some) (hq0 : wc[0]? = some (b, .inr (ci, fs))) (hR : isR.map (fun i => ws[i]?) = wr.map some) (hnc : va_nd isC = true) (hn : va_nd isR = true) (hdis : ∀ i ∈ isR, i ∉ isC)
    (hM : kJ l E D tys y wy rm (.ref b :: As) wc r w1 mc ms) (cw : CallW R s args own q.1 index y bytes maxL ret wy rm mc ms n) (hlen : As.length = n) (hsize : ls.size = nL) (hW : (rest.map fun v => v.category).sum ≤ 8) (hdg : decode cc pc = .ok (.invokevirtual index, 3)) (hf : cells + mc ≤ R.cells ∧ slots + ms ≤ R.slots)
    (kk : ∀ (H1 : Heap) (locs1 : List Loc), va_P D vwCl (wr ++ w1) H1 → va_D A (wr ++ w1) → va_S A s.heap H1 locs1 → W p l e R s m args below meth c H1 locs1 (cells + mc) (slots + ms) Q (F0 m (pc + 3) ls (.long r :: rest))) : W p l e R s m args below meth c H locs cells slots Q (F0 m pc ls (As.reverse ++ .ref b :: rest)) := by
  obtain ⟨h1, h2⟩ := k_pre hN hX hAE hK hP hD hS isC hC hnc (.ref b :: As)
  refine va_calll (va_runV (As := As) (rest := rest) S (hM H.size) cw ⟨h1, va_recv hK (k_cut hP isC hC) hc hq0, h2⟩ rfl hlen hsize rfl (lv_room hW) hdg hf) hS (fun q _ h => va_free hD hS hA isC hC q h) (va_free hD hS hA isC hC) (fun x u t H1 locs1 ht hvm hw hB hz1 hk1 hS1 => ?_)
  subst hw
  obtain ⟨hP1, -, hD1⟩ := hB
  rw [ht] at hP1
  obtain ⟨g1, g2⟩ := k_after hP hD hS hA isC isR hC hR hn hdis hk1 hP1 hD1
  exact kk H1 locs1 g1 g2 hS1
theorem k_cVv {S0 : Type} {w1 : S0 → va_W} (S : CallFix p m c cc nL s args Ts own) {E : kE} (hN : kN s) (hX : kX E s) (hAE : ∀ q, A q → E.1 ≤ q) (hK : va_K D vwCl tys s) (hP : va_P D vwCl ws H) (hD : va_D A ws) (hS : va_S A s.heap H locs) (hA : ∀ q, s.heap.size ≤ q → A q) (isC isR : List Nat) {ci : Nat} {fs : List Value} {q : vw_C} (hc : vwCl[ci]? = some q) (hC : isC.map (fun i => ws[i]?) = wc.map some) (hq0 : wc[0]? = some (b, .inr (ci, fs))) (hR : isR.map (fun i => ws[i]?) = wr.map some) (hnc : va_nd isC = true) (hn : va_nd isR = true) (hdis : ∀ i ∈ isR, i ∉ isC)
    (hM : kV l E D tys y wy rm (.ref b :: As) wc w1 mc ms) (cw : CallW R s args own q.1 index y bytes maxL ret wy rm mc ms n) (hlen : As.length = n) (hsize : ls.size = nL) (hW : (rest.map fun v => v.category).sum ≤ 8) (hdg : decode cc pc = .ok (.invokevirtual index, 3)) (hf : cells + mc ≤ R.cells ∧ slots + ms ≤ R.slots)
    (kk : ∀ (u : S0) (H1 : Heap) (locs1 : List Loc), va_P D vwCl (wr ++ w1 u) H1 → va_D A (wr ++ w1 u) → va_S A s.heap H1 locs1 → W p l e R s m args below meth c H1 locs1 (cells + mc) (slots + ms) Q (F0 m (pc + 3) ls rest)) : W p l e R s m args below meth c H locs cells slots Q (F0 m pc ls (As.reverse ++ .ref b :: rest)) := by
  obtain ⟨h1, h2⟩ := k_pre hN hX hAE hK hP hD hS isC hC hnc (.ref b :: As)
  refine va_callv (va_runV (As := As) (rest := rest) S (hM H.size) cw ⟨h1, va_recv hK (k_cut hP isC hC) hc hq0, h2⟩ rfl hlen hsize rfl (lv_room hW) hdg hf) hS (fun q _ h => va_free hD hS hA isC hC q h) (va_free hD hS hA isC hC) (fun u t H1 locs1 ht hvm hw hB hz1 hk1 hS1 => ?_)
  obtain ⟨hP1, -, hD1⟩ := hB
  rw [ht] at hP1
  obtain ⟨g1, g2⟩ := k_after hP hD hS hA isC isR hC hR hn hdis hk1 hP1 hD1
  exact kk u H1 locs1 g1 g2 hS1
theorem k_cSi {r : Int32} {w1 : va_W} (S : CallFix p m c cc nL s args Ts own) {E : kE} (hN : kN s) (hX : kX E s) (hAE : ∀ q, A q → E.1 ≤ q) (hK : va_K D vwCl tys s) (hP : va_P D vwCl ws H) (hD : va_D A ws) (hS : va_S A s.heap H locs) (hA : ∀ q, s.heap.size ≤ q → A q) (isC isR : List Nat) (hC : isC.map (fun i => ws[i]?) = wc.map some) (hR : isR.map (fun i => ws[i]?) = wr.map some) (hnc : va_nd isC = true) (hn : va_nd isR = true) (hdis : ∀ i ∈ isR, i ∉ isC)
    (hM : kI l E D tys y wy rm As wc r w1 mc ms) (cw : CallB R s args own index y bytes maxL ret wy rm mc ms n ∧ (Cond.static y).before args s = true) (hlen : As.length = n) (hsize : ls.size = nL) (hW : (rest.map fun v => v.category).sum ≤ 8) (hdg : decode cc pc = .ok (.invokestatic index, 3)) (hf : cells + mc ≤ R.cells ∧ slots + ms ≤ R.slots)
    (kk : ∀ (H1 : Heap) (locs1 : List Loc), va_P D vwCl (wr ++ w1) H1 → va_D A (wr ++ w1) → va_S A s.heap H1 locs1 → W p l e R s m args below meth c H1 locs1 (cells + mc) (slots + ms) Q (F0 m (pc + 3) ls (.int r :: rest))) : W p l e R s m args below meth c H locs cells slots Q (F0 m pc ls (As.reverse ++ rest)) := by
  obtain ⟨h1, h2⟩ := k_pre hN hX hAE hK hP hD hS isC hC hnc As
  refine va_calli (va_runS (As := As) (rest := rest) S (hM H.size) cw ⟨h1, h2⟩ rfl hlen hsize rfl (lv_room hW) hdg hf) hS (fun q _ h => va_free hD hS hA isC hC q h) (va_free hD hS hA isC hC) (fun x u t H1 locs1 ht hvm hw hB hz1 hk1 hS1 => ?_)
  subst hw
  obtain ⟨hP1, -, hD1⟩ := hB
  rw [ht] at hP1
  obtain ⟨g1, g2⟩ := k_after hP hD hS hA isC isR hC hR hn hdis hk1 hP1 hD1
  exact kk H1 locs1 g1 g2 hS1
theorem k_cSl {r : Int64} {w1 : va_W} (S : CallFix p m c cc nL s args Ts own) {E : kE} (hN : kN s) (hX : kX E s) (hAE : ∀ q, A q → E.1 ≤ q) (hK : va_K D vwCl tys s) (hP : va_P D vwCl ws H) (hD : va_D A ws) (hS : va_S A s.heap H locs) (hA : ∀ q, s.heap.size ≤ q → A q) (isC isR : List Nat) (hC : isC.map (fun i => ws[i]?) = wc.map some) (hR : isR.map (fun i => ws[i]?) = wr.map some) (hnc : va_nd isC = true) (hn : va_nd isR = true) (hdis : ∀ i ∈ isR, i ∉ isC)
    (hM : kJ l E D tys y wy rm As wc r w1 mc ms) (cw : CallB R s args own index y bytes maxL ret wy rm mc ms n ∧ (Cond.static y).before args s = true) (hlen : As.length = n) (hsize : ls.size = nL) (hW : (rest.map fun v => v.category).sum ≤ 8) (hdg : decode cc pc = .ok (.invokestatic index, 3)) (hf : cells + mc ≤ R.cells ∧ slots + ms ≤ R.slots)
    (kk : ∀ (H1 : Heap) (locs1 : List Loc), va_P D vwCl (wr ++ w1) H1 → va_D A (wr ++ w1) → va_S A s.heap H1 locs1 → W p l e R s m args below meth c H1 locs1 (cells + mc) (slots + ms) Q (F0 m (pc + 3) ls (.long r :: rest))) : W p l e R s m args below meth c H locs cells slots Q (F0 m pc ls (As.reverse ++ rest)) := by
  obtain ⟨h1, h2⟩ := k_pre hN hX hAE hK hP hD hS isC hC hnc As
  refine va_calll (va_runS (As := As) (rest := rest) S (hM H.size) cw ⟨h1, h2⟩ rfl hlen hsize rfl (lv_room hW) hdg hf) hS (fun q _ h => va_free hD hS hA isC hC q h) (va_free hD hS hA isC hC) (fun x u t H1 locs1 ht hvm hw hB hz1 hk1 hS1 => ?_)
  subst hw
  obtain ⟨hP1, -, hD1⟩ := hB
  rw [ht] at hP1
  obtain ⟨g1, g2⟩ := k_after hP hD hS hA isC isR hC hR hn hdis hk1 hP1 hD1
  exact kk H1 locs1 g1 g2 hS1
theorem k_cSv {S0 : Type} {w1 : S0 → va_W} (S : CallFix p m c cc nL s args Ts own) {E : kE} (hN : kN s) (hX : kX E s) (hAE : ∀ q, A q → E.1 ≤ q) (hK : va_K D vwCl tys s) (hP : va_P D vwCl ws H) (hD : va_D A ws) (hS : va_S A s.heap H locs) (hA : ∀ q, s.heap.size ≤ q → A q) (isC isR : List Nat) (hC : isC.map (fun i => ws[i]?) = wc.map some) (hR : isR.map (fun i => ws[i]?) = wr.map some) (hnc : va_nd isC = true) (hn : va_nd isR = true) (hdis : ∀ i ∈ isR, i ∉ isC)
    (hM : kV l E D tys y wy rm As wc w1 mc ms) (cw : CallB R s args own index y bytes maxL ret wy rm mc ms n ∧ (Cond.static y).before args s = true) (hlen : As.length = n) (hsize : ls.size = nL) (hW : (rest.map fun v => v.category).sum ≤ 8) (hdg : decode cc pc = .ok (.invokestatic index, 3)) (hf : cells + mc ≤ R.cells ∧ slots + ms ≤ R.slots)
    (kk : ∀ (u : S0) (H1 : Heap) (locs1 : List Loc), va_P D vwCl (wr ++ w1 u) H1 → va_D A (wr ++ w1 u) → va_S A s.heap H1 locs1 → W p l e R s m args below meth c H1 locs1 (cells + mc) (slots + ms) Q (F0 m (pc + 3) ls rest)) : W p l e R s m args below meth c H locs cells slots Q (F0 m pc ls (As.reverse ++ rest)) := by
  obtain ⟨h1, h2⟩ := k_pre hN hX hAE hK hP hD hS isC hC hnc As
  refine va_callv (va_runS (As := As) (rest := rest) S (hM H.size) cw ⟨h1, h2⟩ rfl hlen hsize rfl (lv_room hW) hdg hf) hS (fun q _ h => va_free hD hS hA isC hC q h) (va_free hD hS hA isC hC) (fun u t H1 locs1 ht hvm hw hB hz1 hk1 hS1 => ?_)
  obtain ⟨hP1, -, hD1⟩ := hB
  rw [ht] at hP1
  obtain ⟨g1, g2⟩ := k_after hP hD hS hA isC isR hC hR hn hdis hk1 hP1 hD1
  exact kk u H1 locs1 g1 g2 hS1
theorem k_cIv {S0 : Type} {w1 : S0 → va_W} (S : CallFix p m c cc nL s args Ts own) {E : kE} (hN : kN s) (hX : kX E s) (hAE : ∀ q, A q → E.1 ≤ q) (hK : va_K D vwCl tys s) (hP : va_P D vwCl ws H) (hD : va_D A ws) (hS : va_S A s.heap H locs) (hA : ∀ q, s.heap.size ≤ q → A q) (isC isR : List Nat) (hC : isC.map (fun i => ws[i]?) = wc.map some) (hR : isR.map (fun i => ws[i]?) = wr.map some) (hnc : va_nd isC = true) (hn : va_nd isR = true) (hdis : ∀ i ∈ isR, i ∉ isC)
    (hM : kV l E D tys y wy rm (.ref b :: As) wc w1 mc ms) (cw : CallB R s args own index y bytes maxL none wy rm mc ms n ∧ y.name = "<init>" ∧ (Cond.instanceMethod y).before args s = true) (hlen : As.length = n) (hsize : ls.size = nL) (hW : (rest.map fun v => v.category).sum ≤ 8) (hdg : decode cc pc = .ok (.invokespecial index, 3)) (hf : cells + mc ≤ R.cells ∧ slots + ms ≤ R.slots)
    (kk : ∀ (u : S0) (H1 : Heap) (locs1 : List Loc), va_P D vwCl (wr ++ w1 u) H1 → va_D A (wr ++ w1 u) → va_S A s.heap H1 locs1 → W p l e R s m args below meth c H1 locs1 (cells + mc) (slots + ms) Q (F0 m (pc + 3) ls rest)) : W p l e R s m args below meth c H locs cells slots Q (F0 m pc ls (As.reverse ++ .ref b :: rest)) := by
  obtain ⟨h1, h2⟩ := k_pre hN hX hAE hK hP hD hS isC hC hnc (.ref b :: As)
  refine va_callv (va_runI (As := As) (rest := rest) S (hM H.size) cw ⟨h1, h2⟩ rfl hlen hsize rfl (lv_room hW) hdg hf) hS (fun q _ h => va_free hD hS hA isC hC q h) (va_free hD hS hA isC hC) (fun u t H1 locs1 ht hvm hw hB hz1 hk1 hS1 => ?_)
  obtain ⟨hP1, -, hD1⟩ := hB
  rw [ht] at hP1
  obtain ⟨g1, g2⟩ := k_after hP hD hS hA isC isR hC hR hn hdis hk1 hP1 hD1
  exact kk u H1 locs1 g1 g2 hS1
theorem k_cVNi {host : String} {r : Int32} {w1 : va_W} (S : CallFix p m c cc nL s args Ts own) {E : kE} (hN : kN s) (hX : kX E s) (hAE : ∀ q, A q → E.1 ≤ q) (hK : va_K D vwCl tys s) (hP : va_P D vwCl ws H) (hD : va_D A ws) (hS : va_S A s.heap H locs) (hA : ∀ q, s.heap.size ≤ q → A q) (isC isR : List Nat) {ci : Nat} {fs : List Value} {q : vw_C} (hc : vwCl[ci]? = some q) (hC : isC.map (fun i => ws[i]?) = wc.map some) (hq0 : wc[0]? = some (b, .inr (ci, fs))) (hR : isR.map (fun i => ws[i]?) = wr.map some) (hnc : va_nd isC = true) (hn : va_nd isR = true) (hdis : ∀ i ∈ isR, i ∉ isC)
    (hM : kI l E D tys y wy rm (.ref b :: As) wc r w1 mc ms) (cw : va_CN R s args own index y host bytes maxL ret wy rm mc ms n ∧ (Cond.instanceMethod y).before args s = true ∧ (Cond.selects q.1 y y).before args s = true) (hlen : As.length = n) (hsize : ls.size = nL) (hW : (rest.map fun v => v.category).sum ≤ 8) (hdg : decode cc pc = .ok (.invokevirtual index, 3)) (hf : cells + mc ≤ R.cells ∧ slots + ms ≤ R.slots)
    (kk : ∀ (H1 : Heap) (locs1 : List Loc), va_P D vwCl (wr ++ w1) H1 → va_D A (wr ++ w1) → va_S A s.heap H1 locs1 → W p l e R s m args below meth c H1 locs1 (cells + mc) (slots + ms) Q (F0 m (pc + 3) ls (.int r :: rest))) : W p l e R s m args below meth c H locs cells slots Q (F0 m pc ls (As.reverse ++ .ref b :: rest)) := by
  obtain ⟨h1, h2⟩ := k_pre hN hX hAE hK hP hD hS isC hC hnc (.ref b :: As)
  refine va_calli (va_runVN (As := As) (rest := rest) S (hM H.size) cw ⟨h1, va_recv hK (k_cut hP isC hC) hc hq0, h2⟩ rfl hlen hsize rfl (lv_room hW) hdg hf) hS (fun q _ h => va_free hD hS hA isC hC q h) (va_free hD hS hA isC hC) (fun x u t H1 locs1 ht hvm hw hB hz1 hk1 hS1 => ?_)
  subst hw
  obtain ⟨hP1, -, hD1⟩ := hB
  rw [ht] at hP1
  obtain ⟨g1, g2⟩ := k_after hP hD hS hA isC isR hC hR hn hdis hk1 hP1 hD1
  exact kk H1 locs1 g1 g2 hS1
theorem k_cVNl {host : String} {r : Int64} {w1 : va_W} (S : CallFix p m c cc nL s args Ts own) {E : kE} (hN : kN s) (hX : kX E s) (hAE : ∀ q, A q → E.1 ≤ q) (hK : va_K D vwCl tys s) (hP : va_P D vwCl ws H) (hD : va_D A ws) (hS : va_S A s.heap H locs) (hA : ∀ q, s.heap.size ≤ q → A q) (isC isR : List Nat) {ci : Nat} {fs : List Value} {q : vw_C} (hc : vwCl[ci]? = some q) (hC : isC.map (fun i => ws[i]?) = wc.map some) (hq0 : wc[0]? = some (b, .inr (ci, fs))) (hR : isR.map (fun i => ws[i]?) = wr.map some) (hnc : va_nd isC = true) (hn : va_nd isR = true) (hdis : ∀ i ∈ isR, i ∉ isC)
    (hM : kJ l E D tys y wy rm (.ref b :: As) wc r w1 mc ms) (cw : va_CN R s args own index y host bytes maxL ret wy rm mc ms n ∧ (Cond.instanceMethod y).before args s = true ∧ (Cond.selects q.1 y y).before args s = true) (hlen : As.length = n) (hsize : ls.size = nL) (hW : (rest.map fun v => v.category).sum ≤ 8) (hdg : decode cc pc = .ok (.invokevirtual index, 3)) (hf : cells + mc ≤ R.cells ∧ slots + ms ≤ R.slots)
    (kk : ∀ (H1 : Heap) (locs1 : List Loc), va_P D vwCl (wr ++ w1) H1 → va_D A (wr ++ w1) → va_S A s.heap H1 locs1 → W p l e R s m args below meth c H1 locs1 (cells + mc) (slots + ms) Q (F0 m (pc + 3) ls (.long r :: rest))) : W p l e R s m args below meth c H locs cells slots Q (F0 m pc ls (As.reverse ++ .ref b :: rest)) := by
  obtain ⟨h1, h2⟩ := k_pre hN hX hAE hK hP hD hS isC hC hnc (.ref b :: As)
  refine va_calll (va_runVN (As := As) (rest := rest) S (hM H.size) cw ⟨h1, va_recv hK (k_cut hP isC hC) hc hq0, h2⟩ rfl hlen hsize rfl (lv_room hW) hdg hf) hS (fun q _ h => va_free hD hS hA isC hC q h) (va_free hD hS hA isC hC) (fun x u t H1 locs1 ht hvm hw hB hz1 hk1 hS1 => ?_)
  subst hw
  obtain ⟨hP1, -, hD1⟩ := hB
  rw [ht] at hP1
  obtain ⟨g1, g2⟩ := k_after hP hD hS hA isC isR hC hR hn hdis hk1 hP1 hD1
  exact kk H1 locs1 g1 g2 hS1
theorem k_cVNv {host : String} {S0 : Type} {w1 : S0 → va_W} (S : CallFix p m c cc nL s args Ts own) {E : kE} (hN : kN s) (hX : kX E s) (hAE : ∀ q, A q → E.1 ≤ q) (hK : va_K D vwCl tys s) (hP : va_P D vwCl ws H) (hD : va_D A ws) (hS : va_S A s.heap H locs) (hA : ∀ q, s.heap.size ≤ q → A q) (isC isR : List Nat) {ci : Nat} {fs : List Value} {q : vw_C} (hc : vwCl[ci]? = some q) (hC : isC.map (fun i => ws[i]?) = wc.map some) (hq0 : wc[0]? = some (b, .inr (ci, fs))) (hR : isR.map (fun i => ws[i]?) = wr.map some) (hnc : va_nd isC = true) (hn : va_nd isR = true) (hdis : ∀ i ∈ isR, i ∉ isC)
    (hM : kV l E D tys y wy rm (.ref b :: As) wc w1 mc ms) (cw : va_CN R s args own index y host bytes maxL ret wy rm mc ms n ∧ (Cond.instanceMethod y).before args s = true ∧ (Cond.selects q.1 y y).before args s = true) (hlen : As.length = n) (hsize : ls.size = nL) (hW : (rest.map fun v => v.category).sum ≤ 8) (hdg : decode cc pc = .ok (.invokevirtual index, 3)) (hf : cells + mc ≤ R.cells ∧ slots + ms ≤ R.slots)
    (kk : ∀ (u : S0) (H1 : Heap) (locs1 : List Loc), va_P D vwCl (wr ++ w1 u) H1 → va_D A (wr ++ w1 u) → va_S A s.heap H1 locs1 → W p l e R s m args below meth c H1 locs1 (cells + mc) (slots + ms) Q (F0 m (pc + 3) ls rest)) : W p l e R s m args below meth c H locs cells slots Q (F0 m pc ls (As.reverse ++ .ref b :: rest)) := by
  obtain ⟨h1, h2⟩ := k_pre hN hX hAE hK hP hD hS isC hC hnc (.ref b :: As)
  refine va_callv (va_runVN (As := As) (rest := rest) S (hM H.size) cw ⟨h1, va_recv hK (k_cut hP isC hC) hc hq0, h2⟩ rfl hlen hsize rfl (lv_room hW) hdg hf) hS (fun q _ h => va_free hD hS hA isC hC q h) (va_free hD hS hA isC hC) (fun u t H1 locs1 ht hvm hw hB hz1 hk1 hS1 => ?_)
  obtain ⟨hP1, -, hD1⟩ := hB
  rw [ht] at hP1
  obtain ⟨g1, g2⟩ := k_after hP hD hS hA isC isR hC hR hn hdis hk1 hP1 hD1
  exact kk u H1 locs1 g1 g2 hS1
theorem k_cSNi {host : String} {r : Int32} {w1 : va_W} (S : CallFix p m c cc nL s args Ts own) {E : kE} (hN : kN s) (hX : kX E s) (hAE : ∀ q, A q → E.1 ≤ q) (hK : va_K D vwCl tys s) (hP : va_P D vwCl ws H) (hD : va_D A ws) (hS : va_S A s.heap H locs) (hA : ∀ q, s.heap.size ≤ q → A q) (isC isR : List Nat) (hC : isC.map (fun i => ws[i]?) = wc.map some) (hR : isR.map (fun i => ws[i]?) = wr.map some) (hnc : va_nd isC = true) (hn : va_nd isR = true) (hdis : ∀ i ∈ isR, i ∉ isC)
    (hM : kI l E D tys y wy rm As wc r w1 mc ms) (cw : va_CN R s args own index y host bytes maxL ret wy rm mc ms n ∧ (Cond.static y).before args s = true ∧ True) (hlen : As.length = n) (hsize : ls.size = nL) (hW : (rest.map fun v => v.category).sum ≤ 8) (hdg : decode cc pc = .ok (.invokestatic index, 3)) (hf : cells + mc ≤ R.cells ∧ slots + ms ≤ R.slots)
    (kk : ∀ (H1 : Heap) (locs1 : List Loc), va_P D vwCl (wr ++ w1) H1 → va_D A (wr ++ w1) → va_S A s.heap H1 locs1 → W p l e R s m args below meth c H1 locs1 (cells + mc) (slots + ms) Q (F0 m (pc + 3) ls (.int r :: rest))) : W p l e R s m args below meth c H locs cells slots Q (F0 m pc ls (As.reverse ++ rest)) := by
  obtain ⟨h1, h2⟩ := k_pre hN hX hAE hK hP hD hS isC hC hnc As
  refine va_calli (va_runSN (As := As) (rest := rest) S (hM H.size) cw ⟨h1, h2⟩ rfl hlen hsize rfl (lv_room hW) hdg hf) hS (fun q _ h => va_free hD hS hA isC hC q h) (va_free hD hS hA isC hC) (fun x u t H1 locs1 ht hvm hw hB hz1 hk1 hS1 => ?_)
  subst hw
  obtain ⟨hP1, -, hD1⟩ := hB
  rw [ht] at hP1
  obtain ⟨g1, g2⟩ := k_after hP hD hS hA isC isR hC hR hn hdis hk1 hP1 hD1
  exact kk H1 locs1 g1 g2 hS1
theorem k_cSNl {host : String} {r : Int64} {w1 : va_W} (S : CallFix p m c cc nL s args Ts own) {E : kE} (hN : kN s) (hX : kX E s) (hAE : ∀ q, A q → E.1 ≤ q) (hK : va_K D vwCl tys s) (hP : va_P D vwCl ws H) (hD : va_D A ws) (hS : va_S A s.heap H locs) (hA : ∀ q, s.heap.size ≤ q → A q) (isC isR : List Nat) (hC : isC.map (fun i => ws[i]?) = wc.map some) (hR : isR.map (fun i => ws[i]?) = wr.map some) (hnc : va_nd isC = true) (hn : va_nd isR = true) (hdis : ∀ i ∈ isR, i ∉ isC)
    (hM : kJ l E D tys y wy rm As wc r w1 mc ms) (cw : va_CN R s args own index y host bytes maxL ret wy rm mc ms n ∧ (Cond.static y).before args s = true ∧ True) (hlen : As.length = n) (hsize : ls.size = nL) (hW : (rest.map fun v => v.category).sum ≤ 8) (hdg : decode cc pc = .ok (.invokestatic index, 3)) (hf : cells + mc ≤ R.cells ∧ slots + ms ≤ R.slots)
    (kk : ∀ (H1 : Heap) (locs1 : List Loc), va_P D vwCl (wr ++ w1) H1 → va_D A (wr ++ w1) → va_S A s.heap H1 locs1 → W p l e R s m args below meth c H1 locs1 (cells + mc) (slots + ms) Q (F0 m (pc + 3) ls (.long r :: rest))) : W p l e R s m args below meth c H locs cells slots Q (F0 m pc ls (As.reverse ++ rest)) := by
  obtain ⟨h1, h2⟩ := k_pre hN hX hAE hK hP hD hS isC hC hnc As
  refine va_calll (va_runSN (As := As) (rest := rest) S (hM H.size) cw ⟨h1, h2⟩ rfl hlen hsize rfl (lv_room hW) hdg hf) hS (fun q _ h => va_free hD hS hA isC hC q h) (va_free hD hS hA isC hC) (fun x u t H1 locs1 ht hvm hw hB hz1 hk1 hS1 => ?_)
  subst hw
  obtain ⟨hP1, -, hD1⟩ := hB
  rw [ht] at hP1
  obtain ⟨g1, g2⟩ := k_after hP hD hS hA isC isR hC hR hn hdis hk1 hP1 hD1
  exact kk H1 locs1 g1 g2 hS1
theorem k_cSNv {host : String} {S0 : Type} {w1 : S0 → va_W} (S : CallFix p m c cc nL s args Ts own) {E : kE} (hN : kN s) (hX : kX E s) (hAE : ∀ q, A q → E.1 ≤ q) (hK : va_K D vwCl tys s) (hP : va_P D vwCl ws H) (hD : va_D A ws) (hS : va_S A s.heap H locs) (hA : ∀ q, s.heap.size ≤ q → A q) (isC isR : List Nat) (hC : isC.map (fun i => ws[i]?) = wc.map some) (hR : isR.map (fun i => ws[i]?) = wr.map some) (hnc : va_nd isC = true) (hn : va_nd isR = true) (hdis : ∀ i ∈ isR, i ∉ isC)
    (hM : kV l E D tys y wy rm As wc w1 mc ms) (cw : va_CN R s args own index y host bytes maxL ret wy rm mc ms n ∧ (Cond.static y).before args s = true ∧ True) (hlen : As.length = n) (hsize : ls.size = nL) (hW : (rest.map fun v => v.category).sum ≤ 8) (hdg : decode cc pc = .ok (.invokestatic index, 3)) (hf : cells + mc ≤ R.cells ∧ slots + ms ≤ R.slots)
    (kk : ∀ (u : S0) (H1 : Heap) (locs1 : List Loc), va_P D vwCl (wr ++ w1 u) H1 → va_D A (wr ++ w1 u) → va_S A s.heap H1 locs1 → W p l e R s m args below meth c H1 locs1 (cells + mc) (slots + ms) Q (F0 m (pc + 3) ls rest)) : W p l e R s m args below meth c H locs cells slots Q (F0 m pc ls (As.reverse ++ rest)) := by
  obtain ⟨h1, h2⟩ := k_pre hN hX hAE hK hP hD hS isC hC hnc As
  refine va_callv (va_runSN (As := As) (rest := rest) S (hM H.size) cw ⟨h1, h2⟩ rfl hlen hsize rfl (lv_room hW) hdg hf) hS (fun q _ h => va_free hD hS hA isC hC q h) (va_free hD hS hA isC hC) (fun u t H1 locs1 ht hvm hw hB hz1 hk1 hS1 => ?_)
  obtain ⟨hP1, -, hD1⟩ := hB
  rw [ht] at hP1
  obtain ⟨g1, g2⟩ := k_after hP hD hS hA isC isR hC hR hn hdis hk1 hP1 hD1
  exact kk u H1 locs1 g1 g2 hS1
theorem k_cINv {host : String} {S0 : Type} {w1 : S0 → va_W} (S : CallFix p m c cc nL s args Ts own) {E : kE} (hN : kN s) (hX : kX E s) (hAE : ∀ q, A q → E.1 ≤ q) (hK : va_K D vwCl tys s) (hP : va_P D vwCl ws H) (hD : va_D A ws) (hS : va_S A s.heap H locs) (hA : ∀ q, s.heap.size ≤ q → A q) (isC isR : List Nat) (hC : isC.map (fun i => ws[i]?) = wc.map some) (hR : isR.map (fun i => ws[i]?) = wr.map some) (hnc : va_nd isC = true) (hn : va_nd isR = true) (hdis : ∀ i ∈ isR, i ∉ isC)
    (hM : kV l E D tys y wy rm (.ref b :: As) wc w1 mc ms) (cw : va_CN R s args own index y host bytes maxL none wy rm mc ms n ∧ y.name = "<init>" ∧ (Cond.instanceMethod y).before args s = true) (hlen : As.length = n) (hsize : ls.size = nL) (hW : (rest.map fun v => v.category).sum ≤ 8) (hdg : decode cc pc = .ok (.invokespecial index, 3)) (hf : cells + mc ≤ R.cells ∧ slots + ms ≤ R.slots)
    (kk : ∀ (u : S0) (H1 : Heap) (locs1 : List Loc), va_P D vwCl (wr ++ w1 u) H1 → va_D A (wr ++ w1 u) → va_S A s.heap H1 locs1 → W p l e R s m args below meth c H1 locs1 (cells + mc) (slots + ms) Q (F0 m (pc + 3) ls rest)) : W p l e R s m args below meth c H locs cells slots Q (F0 m pc ls (As.reverse ++ .ref b :: rest)) := by
  obtain ⟨h1, h2⟩ := k_pre hN hX hAE hK hP hD hS isC hC hnc (.ref b :: As)
  refine va_callv (va_runIN (As := As) (rest := rest) S (hM H.size) cw ⟨h1, h2⟩ rfl hlen hsize rfl (lv_room hW) hdg hf) hS (fun q _ h => va_free hD hS hA isC hC q h) (va_free hD hS hA isC hC) (fun u t H1 locs1 ht hvm hw hB hz1 hk1 hS1 => ?_)
  obtain ⟨hP1, -, hD1⟩ := hB
  rw [ht] at hP1
  obtain ⟨g1, g2⟩ := k_after hP hD hS hA isC isR hC hR hn hdis hk1 hP1 hD1
  exact kk u H1 locs1 g1 g2 hS1
theorem k_cOi {r : Int32} {w1 : va_W} (S : CallFix p m c cc nL s args Ts own) {E : kE} (hN : kN s) (hX : kX E s) (hAE : ∀ q, A q → E.1 ≤ q) (hK : va_K D vwCl tys s) (hP : va_P D vwCl ws H) (hD : va_D A ws) (hS : va_S A s.heap H locs) (hA : ∀ q, s.heap.size ≤ q → A q) (isC isR : List Nat) (hO : va_O C b A s s.heap) (hC : isC.map (fun i => ws[i]?) = wc.map some) (hR : isR.map (fun i => ws[i]?) = wr.map some) (hnc : va_nd isC = true) (hn : va_nd isR = true) (hdis : ∀ i ∈ isR, i ∉ isC)
    (hM : kI l E D tys y wy rm (.ref b :: As) wc r w1 mc ms) (cw : CallW R s args own C index y bytes maxL ret wy rm mc ms n) (hlen : As.length = n) (hsize : ls.size = nL) (hW : (rest.map fun v => v.category).sum ≤ 8) (hdg : decode cc pc = .ok (.invokevirtual index, 3)) (hf : cells + mc ≤ R.cells ∧ slots + ms ≤ R.slots)
    (kk : ∀ (H1 : Heap) (locs1 : List Loc), va_P D vwCl (wr ++ w1) H1 → va_D A (wr ++ w1) → va_S A s.heap H1 locs1 → W p l e R s m args below meth c H1 locs1 (cells + mc) (slots + ms) Q (F0 m (pc + 3) ls (.int r :: rest))) : W p l e R s m args below meth c H locs cells slots Q (F0 m pc ls (As.reverse ++ .ref b :: rest)) := by
  obtain ⟨h1, h2⟩ := k_pre hN hX hAE hK hP hD hS isC hC hnc (.ref b :: As)
  refine va_calli (va_runV (As := As) (rest := rest) S (hM H.size) cw ⟨h1, va_Orecv hO hS, h2⟩ rfl hlen hsize rfl (lv_room hW) hdg hf) hS (fun q _ h => va_free hD hS hA isC hC q h) (va_free hD hS hA isC hC) (fun x u t H1 locs1 ht hvm hw hB hz1 hk1 hS1 => ?_)
  subst hw
  obtain ⟨hP1, -, hD1⟩ := hB
  rw [ht] at hP1
  obtain ⟨g1, g2⟩ := k_after hP hD hS hA isC isR hC hR hn hdis hk1 hP1 hD1
  exact kk H1 locs1 g1 g2 hS1
theorem k_cVvH {x x' : Nat × va_E} {W1 : va_W} (S : CallFix p m c cc nL s args Ts own) {E : kE} (hN : kN s) (hX : kX E s) (hAE : ∀ q, A q → E.1 ≤ q) (hK : va_K D vwCl tys s) (hP : va_P D vwCl (x :: W1) H) (hD : va_D A (x :: W1)) (hS : va_S A s.heap H locs) (hA : ∀ q, s.heap.size ≤ q → A q) {ci : Nat} {fs : List Value} {q : vw_C} (hc : vwCl[ci]? = some q) (hq0 : x = (b, .inr (ci, fs)))
    (hM : kV l E D tys y wy rm (.ref b :: As) [x] (fun _ : Unit => [x']) mc ms) (cw : CallW R s args own q.1 index y bytes maxL ret wy rm mc ms n) (hlen : As.length = n) (hsize : ls.size = nL) (hW : (rest.map fun v => v.category).sum ≤ 8) (hdg : decode cc pc = .ok (.invokevirtual index, 3)) (hf : cells + mc ≤ R.cells ∧ slots + ms ≤ R.slots)
    (kk : ∀ (H1 : Heap) (locs1 : List Loc), va_P D vwCl (x' :: W1) H1 → va_D A (x' :: W1) → va_S A s.heap H1 locs1 → W p l e R s m args below meth c H1 locs1 (cells + mc) (slots + ms) Q (F0 m (pc + 3) ls rest)) : W p l e R s m args below meth c H locs cells slots Q (F0 m pc ls (As.reverse ++ .ref b :: rest)) := by
  refine k_cVv (w1 := fun _ : Unit => [x']) (wc := [x]) (wr := W1) S hN hX hAE hK hP hD hS hA [0] (List.range' 1 W1.length) hc rfl (by rw [hq0]; rfl) (k_rng x W1) rfl (k_rngnd _ _) (fun i hi hj => ?_) hM cw hlen hsize hW hdg hf (fun _ H1 locs1 hP1 hD1 hS1 => kk H1 locs1 (k_permP (List.perm_append_singleton x' W1) hP1) (k_permD (List.perm_append_singleton x' W1) hD1) hS1)
  rw [List.mem_singleton] at hj
  rw [List.mem_range'_1] at hi
  omega
end KC
/-- words that stay -/
def kG (w : Cond) : Prop := (w.onTables && w.keeps) = true ∨ ∃ ty, w = .arrayClass ty
theorem k_gA (ws : List Cond) (h : ws.all goodWord = true) : ∀ w ∈ ws, kG w := fun w hw => good_of_word (List.all_eq_true.mp h w hw)
theorem k_gF (L : List Cond) : ∀ w ∈ L.filter goodWord, kG w := fun w hw => good_of_word (List.mem_filter.mp hw).2
theorem k_gC {big ws : List Cond} {a : Cond} (h1 : a ∈ big) (h2 : goodWord a = true) (h : GoodIn big ws) : GoodIn big (a :: ws) := fun w hw => (List.mem_cons.mp hw).elim (fun e => by rw [e]; exact ⟨h1, good_of_word h2⟩) (h w)
theorem k_tS {a b : List (MethodName × Nat)} (h : ∀ q ∈ a, q ∈ b) : ∀ w ∈ k2_sels a, w ∈ k2_sels b := fun w hw => by
  obtain ⟨q, hq, e⟩ := List.mem_map.mp hw
  exact List.mem_map.mpr ⟨q, h q hq, e⟩
section KF
variable {p : Program} {l : Launch} {e : Env} {R : Room} {s : State} {m : MethodId} {args : Array Value} {below : List Frame} {meth : Method} {c : Code} {H : Heap} {locs : List Loc} {cells slots : Nat} {Q : State → Prop}
variable {cc : ByteArray} {pc a : Nat} {ls : Array Slot} {rest : List Value} {D : va_G} {cl : List vw_C} {A : Nat → Prop} {tys : List (ClassId × FieldType)} {ws : va_W} {H0 : Heap}
theorem k_get (hexec : p.tables.exec = Jvm.exec) (hb : c.code = cc) {own ref C n d : String} {fin : Bool} {T : u_T} {N ci index k : Nat} {Ts : List Cond} (hts : ∀ w ∈ Ts, w.before args s = true) (hin : ∀ w ∈ u_ws C T N, w ∈ Ts) (hown : s.vm.findClass own = some m.cls) (hK : va_K D cl tys s) (hP : va_P D cl ws H) (q0 : Nat) {fs : List Value} (he : ws[q0]? = some (a, .inr (ci, fs))) (hc : cl[ci]? = some (C, T, N)) (hk : k < N) (hT : T k = (ref, n, d, fin)) (hlink : (Cond.fieldLink own index ref n d).before args s = true) {v : Value} (hv : fs[k]? = some v) (hdg : decode cc pc = .ok (.getfield index, 3))
    (kk : W p l e R s m args below meth c H locs cells slots Q (F0 m (pc + 3) ls (v :: rest))) : W p l e R s m args below meth c H locs cells slots Q (F0 m pc ls (.ref a :: rest)) :=
  va_get hexec hb hts hin hown hK hP q0 he hc k hk (by rw [hT]; exact hlink) (by rw [hT]; exact fun _ h => h) hv hdg kk
theorem k_getN (hexec : p.tables.exec = Jvm.exec) (hb : c.code = cc) {own ref C n d host : String} {fin : Bool} {T : u_T} {N ci index k : Nat} {Ts : List Cond} (hts : ∀ w ∈ Ts, w.before args s = true) (hin : ∀ w ∈ u_ws C T N, w ∈ Ts) (hown : s.vm.findClass own = some m.cls) (hK : va_K D cl tys s) (hP : va_P D cl ws H) (q0 : Nat) {fs : List Value} (he : ws[q0]? = some (a, .inr (ci, fs))) (hc : cl[ci]? = some (C, T, N)) (hk : k < N) (hT : T k = (ref, n, d, fin)) (hlink : (Cond.fieldLinkNest own index ref n d host).before args s = true) {v : Value} (hv : fs[k]? = some v) (hdg : decode cc pc = .ok (.getfield index, 3))
    (kk : W p l e R s m args below meth c H locs cells slots Q (F0 m (pc + 3) ls (v :: rest))) : W p l e R s m args below meth c H locs cells slots Q (F0 m pc ls (.ref a :: rest)) :=
  va_getN hexec hb hts hin hown hK hP q0 he hc k hk (by rw [hT]; exact hlink) (by rw [hT]; exact fun _ h => h) hv hdg kk
theorem k_put (hexec : p.tables.exec = Jvm.exec) (hb : c.code = cc) {own ref C n d : String} {fin : Bool} {T : u_T} {N ci index k : Nat} {Ts : List Cond} (hts : ∀ w ∈ Ts, w.before args s = true) (hin : ∀ w ∈ u_ws C T N, w ∈ Ts) (ty0 : Nat → FieldType) (hty : ∀ k, k < N → parseFieldDescriptor (T k).2.2.1 = some (ty0 k)) (hnm : ∀ a, a < N → ∀ b, b < N → a ≠ b → (T a).2.1 ≠ (T b).2.1) (hown : s.vm.findClass own = some m.cls) (hK : va_K D cl tys s) (hP : va_P D cl ws H) (hD : va_D A ws) (hS0 : va_S A H0 H locs) (q0 : Nat) {fs : List Value} (he : ws[q0]? = some (a, .inr (ci, fs))) (hc : cl[ci]? = some (C, T, N)) (hk : k < N) (hT : T k = (ref, n, d, fin)) (hlink : (Cond.fieldLink own index ref n d).before args s = true) (hf : fin = false) {ty : FieldType} {v : Value} (hd : parseFieldDescriptor d = some ty) (hn : narrow ty v = v) (hfit : fits ty v = true) (hl : k < fs.length) (hdg : decode cc pc = .ok (.putfield index, 3))
    (kk : ∀ (H1 : Heap) (locs1 : List Loc), va_P D cl (ws.set q0 (a, .inr (ci, fs.set k v))) H1 → va_D A (ws.set q0 (a, .inr (ci, fs.set k v))) → va_S A H0 H1 locs1 → W p l e R s m args below meth c H1 locs1 cells slots Q (F0 m (pc + 3) ls rest)) : W p l e R s m args below meth c H locs cells slots Q (F0 m pc ls (v :: .ref a :: rest)) :=
  va_put hexec hb hts hin ty0 hty hnm hown hK hP hD hS0 q0 he hc k hk (by rw [hT]; exact hlink) (by rw [hT]; exact fun _ h => h) (by rw [hT]; exact hf) (by rw [hT]; exact hd) hn hfit hl hdg kk
theorem k_putN (hexec : p.tables.exec = Jvm.exec) (hb : c.code = cc) {own ref C n d host : String} {fin : Bool} {T : u_T} {N ci index k : Nat} {Ts : List Cond} (hts : ∀ w ∈ Ts, w.before args s = true) (hin : ∀ w ∈ u_ws C T N, w ∈ Ts) (ty0 : Nat → FieldType) (hty : ∀ k, k < N → parseFieldDescriptor (T k).2.2.1 = some (ty0 k)) (hnm : ∀ a, a < N → ∀ b, b < N → a ≠ b → (T a).2.1 ≠ (T b).2.1) (hown : s.vm.findClass own = some m.cls) (hK : va_K D cl tys s) (hP : va_P D cl ws H) (hD : va_D A ws) (hS0 : va_S A H0 H locs) (q0 : Nat) {fs : List Value} (he : ws[q0]? = some (a, .inr (ci, fs))) (hc : cl[ci]? = some (C, T, N)) (hk : k < N) (hT : T k = (ref, n, d, fin)) (hlink : (Cond.fieldLinkNest own index ref n d host).before args s = true) (hf : fin = false) {ty : FieldType} {v : Value} (hd : parseFieldDescriptor d = some ty) (hn : narrow ty v = v) (hfit : fits ty v = true) (hl : k < fs.length) (hdg : decode cc pc = .ok (.putfield index, 3))
    (kk : ∀ (H1 : Heap) (locs1 : List Loc), va_P D cl (ws.set q0 (a, .inr (ci, fs.set k v))) H1 → va_D A (ws.set q0 (a, .inr (ci, fs.set k v))) → va_S A H0 H1 locs1 → W p l e R s m args below meth c H1 locs1 cells slots Q (F0 m (pc + 3) ls rest)) : W p l e R s m args below meth c H locs cells slots Q (F0 m pc ls (v :: .ref a :: rest)) :=
  va_putN hexec hb hts hin ty0 hty hnm hown hK hP hD hS0 q0 he hc k hk (by rw [hT]; exact hlink) (by rw [hT]; exact fun _ h => h) (by rw [hT]; exact hf) (by rw [hT]; exact hd) hn hfit hl hdg kk
theorem k_putF (hexec : p.tables.exec = Jvm.exec) (hb : c.code = cc) {own ref C n d : String} {fin : Bool} {T : u_T} {N ci index k : Nat} {Ts : List Cond} (hts : ∀ w ∈ Ts, w.before args s = true) (hin : ∀ w ∈ u_ws C T N, w ∈ Ts) (ty0 : Nat → FieldType) (hty : ∀ k, k < N → parseFieldDescriptor (T k).2.2.1 = some (ty0 k)) (hnm : ∀ a, a < N → ∀ b, b < N → a ≠ b → (T a).2.1 ≠ (T b).2.1) (hown : s.vm.findClass own = some m.cls) (hK : va_K D cl tys s) (hP : va_P D cl ws H) (hD : va_D A ws) (hS0 : va_S A H0 H locs) (q0 : Nat) {fs : List Value} (he : ws[q0]? = some (a, .inr (ci, fs))) (hc : cl[ci]? = some (C, T, N)) (hk : k < N) (hT : T k = (ref, n, d, fin)) (hlink : (Cond.fieldLink own index ref n d).before args s = true) (hf : fin = true) (hin2 : meth.name = "<init>") (hdecl : ref = own) {ty : FieldType} {v : Value} (hd : parseFieldDescriptor d = some ty) (hn : narrow ty v = v) (hfit : fits ty v = true) (hl : k < fs.length) (hdg : decode cc pc = .ok (.putfield index, 3))
    (kk : ∀ (H1 : Heap) (locs1 : List Loc), va_P D cl (ws.set q0 (a, .inr (ci, fs.set k v))) H1 → va_D A (ws.set q0 (a, .inr (ci, fs.set k v))) → va_S A H0 H1 locs1 → W p l e R s m args below meth c H1 locs1 cells slots Q (F0 m (pc + 3) ls rest)) : W p l e R s m args below meth c H locs cells slots Q (F0 m pc ls (v :: .ref a :: rest)) :=
  va_putF hexec hb hts hin ty0 hty hnm hown hK hP hD hS0 q0 he hc k hk (by rw [hT]; exact hlink) (by rw [hT]; exact fun _ h => h) (by rw [hT]; exact hf) hin2 (by rw [hT]; exact hdecl) (by rw [hT]; exact hd) hn hfit hl hdg kk
end KF
