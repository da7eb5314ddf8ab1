abbrev cL_law : ByteArray := code
-- the law: numbers, what stands at its entry
theorem k_t1 {x c : Int32} (z : Int) (h : x < c) (hz : c.toInt = z) : x.toInt < z := by rw [← hz]; exact Int32.lt_iff_toInt_lt.mp h
theorem k_t2 {x c : Int32} (z : Int) (h : ¬ x < c) (hz : c.toInt = z) : z ≤ x.toInt := by
  rw [← hz]
  exact Int.not_lt.mp fun q => h (Int32.lt_iff_toInt_lt.mpr q)
theorem k_t3 {x c : Int32} (z : Int) (h : x = c) (hz : c.toInt = z) : x.toInt = z := by rw [← hz, h]
theorem k_t4 {x c : Int32} (z : Int) (h : ¬ x = c) (hz : c.toInt = z) : x.toInt ≠ z := by
  rw [← hz]
  exact fun q => h (Int32.toInt_inj.mp q)
theorem k_u1 {x c : Int32} (z : Int) (h : x.toInt < z) (hz : c.toInt = z) : x < c := Int32.lt_iff_toInt_lt.mpr (by rw [hz]; exact h)
theorem k_u2 {x c : Int32} (z : Int) (h : z ≤ x.toInt) (hz : c.toInt = z) : ¬ x < c := fun q => by
  have h1 := Int32.lt_iff_toInt_lt.mp q
  rw [hz] at h1
  omega
theorem k_u3 {x c : Int32} (z : Int) (h : x.toInt = z) (hz : c.toInt = z) : x = c := Int32.toInt_inj.mp (by rw [hz]; exact h)
theorem k_u4 {x c : Int32} (z : Int) (h : x.toInt ≠ z) (hz : c.toInt = z) : ¬ x = c := fun q => h (by rw [q, hz])
theorem k_bm {z : Int} (h1 : -2147483648 ≤ z) (h2 : z < 2147483648) : z.bmod (2 ^ 32) = z := by
  apply Int.bmod_eq_of_le
  · omega
  · omega
theorem k_vin {i : Int32} {n : Nat} (h0 : 0 ≤ i.toInt) (h1 : i.toInt < n) : vp_in i n := by
  intro h
  rcases h with h | h
  · have h2 := Int32.lt_iff_toInt_lt.mp h
    have h3 : (0 : Int32).toInt = 0 := rfl
    omega
  · have h4 : i.toNatClampNeg = i.toInt.toNat := rfl
    omega
theorem k_vo1 {a b : Int32} (h1 : 1 ≤ a.toInt) (h2 : a.toInt ≤ 100) (h3 : 0 ≤ b.toInt) (h4 : b.toInt ≤ 255) : vp_in (((a - 1) * 256) + b) 25600 := by
  have e1 : (a - 1).toInt = a.toInt - 1 := by
    rw [Int32.toInt_sub, show (1 : Int32).toInt = 1 from rfl]
    exact k_bm (by omega) (by omega)
  have e2 : ((a - 1) * 256).toInt = (a.toInt - 1) * 256 := by
    rw [Int32.toInt_mul, e1, show (256 : Int32).toInt = 256 from rfl]
    exact k_bm (by omega) (by omega)
  have e3 : (((a - 1) * 256) + b).toInt = (a.toInt - 1) * 256 + b.toInt := by
    rw [Int32.toInt_add, e2]
    exact k_bm (by omega) (by omega)
  exact k_vin (by rw [e3]; omega) (by rw [e3]; omega)
theorem k_vo2 {a b : Int32} (h1 : 1 ≤ a.toInt) (h2 : a.toInt ≤ 100) (h3 : 0 ≤ b.toInt) (h4 : b.toInt ≤ 255) : vp_in ((256 * a) + b) 25856 := by
  have e2 : (256 * a).toInt = 256 * a.toInt := by
    rw [Int32.toInt_mul, show (256 : Int32).toInt = 256 from rfl]
    exact k_bm (by omega) (by omega)
  have e3 : ((256 * a) + b).toInt = 256 * a.toInt + b.toInt := by
    rw [Int32.toInt_add, e2]
    exact k_bm (by omega) (by omega)
  exact k_vin (by rw [e3]; omega) (by rw [e3]; omega)
theorem k_lgs (v : Int64) : lg_cmp v v = 0 := by
  unfold lg_cmp
  have h : ¬ v > v := fun q => by
    have := Int64.lt_iff_toInt_lt.mp q
    omega
  rw [if_neg h, if_pos rfl]
theorem k_poke (x : Int32) : lg_cmp (Int32.toInt64 ((vp_nar .byte (Int8.toInt32 (Int32.toInt8 (0 ^^^ (Int8.toInt32 (Int32.toInt8 x)))))) &&& 255)) (Int32.toInt64 ((vp_nar .byte (Int8.toInt32 (Int32.toInt8 (0 ^^^ x)))) &&& 255)) = 0 := by
  rw [Int32.zero_xor, Int32.zero_xor, Int8.toInt8_toInt32]
  exact k_lgs _
theorem k_arr {args : Array Value} {s : State} {ty : FieldType} (h : (Cond.arrayClass ty).before args s = true) : ∃ c : ClassId, ArrOfT s c ty ∧ s.vm.findClass ("[" ++ ty.toString) = some c := by
  obtain ⟨c, k, comp, h1, h2, h3⟩ := Cond.arrayClass_spec h
  exact ⟨c, fun n z => ⟨fun k9 h9 => (nomatch h9), k, h2, comp, h3⟩, h1⟩
theorem k_kT {cI cJ cB cZ : ClassId} {s : State} (h1 : ArrOfT s cI .int ∧ s.vm.findClass ("[" ++ FieldType.int.toString) = some cI) (h2 : ArrOfT s cJ .long ∧ s.vm.findClass ("[" ++ FieldType.long.toString) = some cJ) (h3 : ArrOfT s cB .byte ∧ s.vm.findClass ("[" ++ FieldType.byte.toString) = some cB) (h4 : ArrOfT s cZ .boolean ∧ s.vm.findClass ("[" ++ FieldType.boolean.toString) = some cZ) : ∀ (k : Nat) (q : ClassId × FieldType), (kT cI cJ cB cZ)[k]? = some q → ArrOfT s q.1 q.2 ∧ va_RA s q.1 q.2 := by
  intro k q hq
  match k, hq with
  | 0, hq => cases hq; exact h1
  | 1, hq => cases hq; exact h2
  | 2, hq => cases hq; exact h3
  | 3, hq => cases hq; exact h4
  | k + 4, hq => simp [kT] at hq
/-- what stands all through the law -/
def kLaw (p : Program) (l : Launch) (s : State) (m : MethodId) (c : Code) (b : Nat) (xs : Nat → Int32) (E : kE) (D : va_G) (cI cJ cB cZ : ClassId) (A : Nat → Prop) : Prop :=
  l.stackTraces = false ∧ p.tables.exec = Jvm.exec ∧ c.code = cL_law ∧ c.maxLocals = 8 ∧ s.vm.findClass RL = some m.cls ∧ (∀ w ∈ vW_L_law, w.before #[Value.ref b] s = true) ∧ kN s ∧ kX E s ∧ (∀ q, A q → E.1 ≤ q) ∧ va_K D vwCl (kT cI cJ cB cZ) s ∧ (∀ q, s.heap.size ≤ q → A q) ∧ va_X b 10 xs s s.heap ∧ b < s.heap.size ∧ ¬ A b
/-- behind each call: the law's end -/
def kTail (p : Program) (l : Launch) (e : Env) (s : State) (m : MethodId) (b : Nat) (below : List Frame) (meth : Method) (c : Code) (A : Nat → Prop) (Q : State → Prop) : Prop := ∀ (H : Heap) (locs : List Loc) (ls : Array Slot), va_S A s.heap H locs → lv_has ls 8 [(0, .ref b), (4, .int 0)] → W p l e room_1 s m #[Value.ref b] below meth c H locs 600002 7302232 Q (F0 m 1765 ls [])
