-- ===== the class's reader =====
abbrev kc9 (T : TkE) (i : Nat) : Int := lx_kc (tK T i) (tV T i)
def TOKS (T : TkE) (m : Nat) (σ : St) : Prop := (gi σ 18 5).toInt = m ∧ m ≤ 2000 ∧ tK T m = 0 ∧ (∀ k, k ≤ m → (gi σ 20 k).toInt = lx_kc (tK T k) (tV T k) ∧ 0 ≤ tK T k ∧ tK T k ≤ 5 ∧ (tK T k = 4 → 1 ≤ tV T k ∧ tV T k ≤ 14) ∧ (tK T k = 5 → 1 ≤ tV T k ∧ tV T k ≤ 17)) ∧ (∀ k, k < m → ¬ tK T k = 0 ∧ (tK T k = 2 → (gi σ 22 k).toInt % 1048576 = tV T k ∧ 0 ≤ tV T k ∧ tV T k < 1000000) ∧ (tK T k = 3 ∨ tK T k = 4 → (gl σ 23 k).toInt = tN T k))
theorem TOK_of {T : TkE} {m : Nat} {s s' : St} (e1 : gi s' 18 5 = gi s 18 5) (e2 : ∀ k, gi s' 20 k = gi s 20 k) (e3 : ∀ k, gi s' 22 k = gi s 22 k) (e4 : ∀ k, gl s' 23 k = gl s 23 k) (h : TOKS T m s) : TOKS T m s' := by
  unfold TOKS at h ⊢
  simp only [e1, e2, e3, e4]
  exact h
def fst9 (f : Nat → Int) (x : Int) : Nat → Int
  | 0 => -1
  | n + 1 => if 0 ≤ fst9 f x n then fst9 f x n else if f n = x then n else -1
theorem fst9_bd (f : Nat → Int) (x : Int) : ∀ n, -1 ≤ fst9 f x n ∧ fst9 f x n < n
  | 0 => by simp [fst9]
  | n + 1 => by
    have := fst9_bd f x n
    simp only [fst9]
    split
    · omega
    · split <;> omega
theorem fst9_next {f : Nat → Int} {x : Int} {n : Nat} (h : fst9 f x n = -1) (hn : ¬ f n = x) : fst9 f x (n + 1) = -1 := by
  simp only [fst9]; rw [h, if_neg (by decide), if_neg hn]
theorem fst9_here {f : Nat → Int} {x : Int} {v : Nat} (h : fst9 f x v = -1) (hv : f v = x) : ∀ n, v < n → fst9 f x n = v
  | 0, hn => absurd hn (Nat.not_lt_zero v)
  | n + 1, hn => by
    simp only [fst9]
    by_cases c : v = n
    · subst c; rw [h, if_neg (by decide), if_pos hv]
    · rw [fst9_here h hv n (by omega), if_pos (by omega)]
/-- the names that there are -/
def ENV9 (T : TkE) (σ : St) : Prop := (0 ≤ (gi σ 7 10).toInt ∧ (gi σ 7 10).toInt ≤ 4) ∧ (0 ≤ (gi σ 7 11).toInt ∧ (gi σ 7 11).toInt ≤ 24) ∧ (∀ x, tvr T x = fst9 (fun v => (gl σ 8 v).toInt) x (gi σ 7 10).toInt.toNat) ∧ (∀ x, tcl T x = fst9 (fun v => (gl σ 9 v).toInt) x (gi σ 7 11).toInt.toNat)
theorem ENV_of {T : TkE} {s s' : St} (e1 : gi s' 7 10 = gi s 7 10) (e2 : gi s' 7 11 = gi s 7 11) (e3 : ∀ k, gl s' 8 k = gl s 8 k) (e4 : ∀ k, gl s' 9 k = gl s 9 k) (h : ENV9 T s) : ENV9 T s' := by
  unfold ENV9 at h ⊢
  simp only [e1, e2, e3, e4]
  exact h
/-- the reader goes on at token i with t tokens taken, o open, len steps; or it has found a fault -/
def RL (T : TkE) (m i t : Nat) (o sl : Int) (len : Nat) (σ : St) : Prop := (gi σ 30 3).toInt = 0 ∧ (gi σ 30 6).toInt = i ∧ (gi σ 30 7).toInt = kc9 T i ∧ (gi σ 30 12).toInt = t ∧ (gi σ 30 14).toInt = o ∧ (gi σ 30 13).toInt = len ∧ (gi σ 30 11).toInt = sl ∧ i ≤ m ∧ t ≤ 120 ∧ 0 ≤ sl ∧ sl ≤ 25 ∧ 0 ≤ o ∧ o ≤ 12 ∧ len ≤ 512
def RD (σ : St) : Prop := ¬ (gi σ 30 3).toInt = 0 ∧ (gi σ 30 7).toInt = 44
def STP9 (sl : Int) (l : List Int) (σ : St) : Prop := ∀ k, k < l.length → (gi σ 11 (512 * sl.toNat + k)).toInt = l.getD k 0
theorem STP_of {sl : Int} {l : List Int} {s s' : St} (e : ∀ k, gi s' 11 k = gi s 11 k) (h : STP9 sl l s) : STP9 sl l s' := fun k hk => by rw [e]; exact h k hk
theorem stp_add {sl : Int} {l : List Int} {s s' : St} {n : Nat} {v : Int32} {x : Int} (e : s' = si s 11 n v) (hn : n = 512 * sl.toNat + l.length) (hv : v.toInt = x) (h : STP9 sl l s) : STP9 sl (l ++ [x]) s' := fun k hk => by
  subst e; subst hn
  rw [List.length_append, List.length_singleton] at hk
  by_cases c : k = l.length
  · subst c
    simp [gi, si, up2, hv]
  · have h1 := h k (by omega)
    have c2 : ¬ 512 * sl.toNat + k = 512 * sl.toNat + l.length := by omega
    simp only [gi, si, up2] at h1 ⊢
    rw [if_neg (fun z => c2 z.2), h1]
    simp [List.getD_eq_getElem?_getD, List.getElem?_append_left (show k < l.length by omega)]
def opn9 (w : Int) : Prop := w = 25 ∨ w = 4 ∨ w = 6
abbrev opa9 (w o : Int) : Int := if w = 25 ∨ w = 4 ∨ w = 6 then o + 1 else if w = 5 ∨ w = 7 then o - 1 else o
/-- a token is taken if it is the wanted one and not one too many -/
def ACC (T : TkE) (m i t : Nat) (o sl : Int) (len : Nat) (w : Int) (σ : St) : Prop := ((kc9 T i = w ∧ t < 120 ∧ (w = 25 ∨ w = 4 ∨ w = 6 → o < 12)) ∧ RL T m (i + 1) (t + 1) (opa9 w o) sl len σ) ∨ (¬ (kc9 T i = w ∧ t < 120 ∧ (w = 25 ∨ w = 4 ∨ w = 6 → o < 12)) ∧ RD σ)
/-- what a part of the grammar leaves -/
def RES (r : Option (List Int × Nat × Nat)) (T : TkE) (m : Nat) (o sl : Int) (l : List Int) (σ : St) : Prop := (∃ c j u, r = some (c, j, u) ∧ RL T m j u o sl (l ++ c).length σ ∧ STP9 sl (l ++ c) σ) ∨ (r = none ∧ RD σ)
theorem lx_kc_0 {T : TkE} {m i : Nat} {σ : St} (h : TOKS T m σ) (hi : i ≤ m) (w : Int) (hw : ¬ w = 0) (e : lx_kc (tK T i) (tV T i) = w) : i < m := by
  by_cases c : i = m
  · rw [c, h.2.2.1] at e; exact absurd e.symm hw
  · omega
theorem i_and20 {x v : Int32} (h : x &&& 1048575 = v) : v.toInt = x.toInt % 1048576 := by
  subst h
  have key : (x.toBitVec &&& 1048575#32).toInt = x.toBitVec.toInt % 1048576 := by
    have e1 : (x.toBitVec &&& 1048575#32).toNat = x.toBitVec.toNat % 1048576 := by
      rw [BitVec.toNat_and]
      exact Nat.and_two_pow_sub_one_eq_mod x.toBitVec.toNat 20
    have e2 : (x.toBitVec &&& 1048575#32).toNat < 1048576 := by rw [e1]; exact Nat.mod_lt _ (by decide)
    rw [BitVec.toInt_eq_toNat_cond, if_pos (by omega), e1, BitVec.toInt_eq_toNat_cond]
    split <;> omega
  exact key
/-- a kind and a number above it -/
theorem i_or6 {k n y v : Int32} (h1 : n <<< ((6 : Int32) &&& 31) = y) (h2 : k ||| y = v) (k0 : 0 ≤ k.toInt) (k1 : k.toInt < 64) (n0 : 0 ≤ n.toInt) (n1 : n.toInt < 16777216) : v.toInt = k.toInt + 64 * n.toInt := by
  subst h1 h2
  have ek : k.toBitVec.toNat = k.toInt.toNat := by
    have h : k.toBitVec.toInt = k.toInt := rfl
    have c := BitVec.toInt_eq_toNat_cond k.toBitVec
    have l := k.toBitVec.isLt
    rw [h] at c
    split at c <;> omega
  have en : n.toBitVec.toNat = n.toInt.toNat := by
    have h : n.toBitVec.toInt = n.toInt := rfl
    have c := BitVec.toInt_eq_toNat_cond n.toBitVec
    have l := n.toBitVec.isLt
    rw [h] at c
    split at c <;> omega
  have eZ : (n <<< ((6 : Int32) &&& 31)).toBitVec = n.toBitVec <<< 6 := rfl
  have key : (k.toBitVec ||| (n.toBitVec <<< 6)).toNat = n.toInt.toNat * 64 + k.toInt.toNat := by
    rw [BitVec.toNat_or, BitVec.toNat_shiftLeft, ek, en]
    have a1 : n.toInt.toNat <<< 6 % 2 ^ 32 = n.toInt.toNat <<< 6 := by
      rw [Nat.shiftLeft_eq]; exact Nat.mod_eq_of_lt (by omega)
    rw [a1, Nat.or_comm, ← Nat.shiftLeft_add_eq_or_of_lt (by omega : k.toInt.toNat < 2 ^ 6), Nat.shiftLeft_eq]
  show (k.toBitVec ||| (n <<< ((6 : Int32) &&& 31)).toBitVec).toInt = _
  rw [eZ, BitVec.toInt_eq_toNat_cond, key, if_pos (by omega)]
  omega
theorem opa_n {w o : Int} (h : ¬ (w = 25 ∨ w = 4 ∨ w = 6) ∧ ¬ (w = 5 ∨ w = 7)) : opa9 w o = o := by unfold opa9; rw [if_neg h.1, if_neg h.2]
theorem opa_o {w o : Int} (h : w = 25 ∨ w = 4 ∨ w = 6) : opa9 w o = o + 1 := by unfold opa9; rw [if_pos h]
theorem opa_c {w o : Int} (h : w = 5 ∨ w = 7) : opa9 w o = o - 1 := by unfold opa9; rw [if_neg (by omega), if_pos h]
/-- a number that must be 2 to 12 is looked at -/
def CHK (T : TkE) (m i t : Nat) (o sl : Int) (len : Nat) (σ : St) : Prop := (RL T m i t o sl len σ ∧ (kc9 T i = 2 → t < 120 → 2 ≤ tV T i ∧ tV T i ≤ 12)) ∨ ((kc9 T i = 2 ∧ t < 120 ∧ ¬ (2 ≤ tV T i ∧ tV T i ≤ 12)) ∧ RD σ)
-- ===== what the class's reader does, path by path =====
def R9 (T : TkE) (i : Nat) : Prop := 0 ≤ tK T i ∧ tK T i ≤ 5 ∧ (tK T i = 4 → 1 ≤ tV T i ∧ tV T i ≤ 14) ∧ (tK T i = 5 → 1 ≤ tV T i ∧ tV T i ≤ 17)
theorem toks_r {T : TkE} {m i : Nat} {σ : St} (h : TOKS T m σ) (hi : i ≤ m) : R9 T i := (h.2.2.2.1 i hi).2
theorem kc_sg {T : TkE} {i : Nat} (R : R9 T i) (s : Int) (h1 : 1 ≤ s ∧ s ≤ 17) : kc9 T i = 3 + s ↔ tsg T i s := by
  obtain ⟨a, b, c, d⟩ := R
  show lx_kc (tK T i) (tV T i) = 3 + s ↔ tK T i = 5 ∧ tV T i = s
  simp only [lx_kc]
  (repeat' split) <;> omega
theorem kc_wd {T : TkE} {i : Nat} (R : R9 T i) (s : Int) (h1 : 1 ≤ s ∧ s ≤ 14) : kc9 T i = 20 + s ↔ twd T i s := by
  obtain ⟨a, b, c, d⟩ := R
  show lx_kc (tK T i) (tV T i) = 20 + s ↔ tK T i = 4 ∧ tV T i = s
  simp only [lx_kc]
  (repeat' split) <;> omega
theorem kc_nm {T : TkE} {i : Nat} (R : R9 T i) : kc9 T i = 1 ↔ tK T i = 3 := by
  obtain ⟨a, b, c, d⟩ := R
  show lx_kc (tK T i) (tV T i) = 1 ↔ tK T i = 3
  simp only [lx_kc]
  (repeat' split) <;> omega
theorem kc_nu {T : TkE} {i : Nat} (R : R9 T i) : kc9 T i = 2 ↔ tK T i = 2 := by
  obtain ⟨a, b, c, d⟩ := R
  show lx_kc (tK T i) (tV T i) = 2 ↔ tK T i = 2
  simp only [lx_kc]
  (repeat' split) <;> omega
theorem kc_wr {T : TkE} {i : Nat} (R : R9 T i) : (28 ≤ kc9 T i ∧ kc9 T i ≤ 32) ↔ (tK T i = 4 ∧ 8 ≤ tV T i ∧ tV T i ≤ 12) := by
  obtain ⟨a, b, c, d⟩ := R
  show (28 ≤ lx_kc (tK T i) (tV T i) ∧ lx_kc (tK T i) (tV T i) ≤ 32) ↔ _
  simp only [lx_kc]
  (repeat' split) <;> omega
theorem kc_wv {T : TkE} {i : Nat} (R : R9 T i) (h : 28 ≤ kc9 T i ∧ kc9 T i ≤ 32) : kc9 T i = 20 + tV T i := by
  have c := (kc_wr R).mp h
  show lx_kc (tK T i) (tV T i) = _
  simp only [lx_kc]
  (repeat' split) <;> omega
theorem kc_cm {T : TkE} {i : Nat} (R : R9 T i) : (kc9 T i = 10 ∨ (14 ≤ kc9 T i ∧ kc9 T i ≤ 18)) ↔ (tK T i = 5 ∧ isCmp (tV T i)) := by
  obtain ⟨a, b, c, d⟩ := R
  show (lx_kc (tK T i) (tV T i) = 10 ∨ (14 ≤ lx_kc (tK T i) (tV T i) ∧ lx_kc (tK T i) (tV T i) ≤ 18)) ↔ (tK T i = 5 ∧ (tV T i = 7 ∨ (11 ≤ tV T i ∧ tV T i ≤ 15)))
  simp only [lx_kc]
  (repeat' split) <;> omega
section
variable {T : TkE} {can : Bool} {inner : P9} {i t : Nat} {o : Int}
theorem fac9_v (R : R9 T i) (h : kc9 T i = 1) (hv : 0 ≤ tvr T (tN T i)) (ht : t < 120) : fac9 T can inner i t = some ([41 + 64 * tvr T (tN T i)], i + 1, t + 1) := by
  rw [fac9, if_pos ((kc_nm R).mp h), if_pos ⟨hv, ht⟩]
theorem fac9_vx (R : R9 T i) (h : kc9 T i = 1) (ht : ¬ (0 ≤ tvr T (tN T i) ∧ t < 120)) : fac9 T can inner i t = none := by
  rw [fac9, if_pos ((kc_nm R).mp h), if_neg ht]
theorem fac9_b (R : R9 T i) (h : kc9 T i = 6) : fac9 T can inner i t = brk9 T can inner 3 i t := by
  have s := (kc_sg R 3 (by decide)).mp h
  rw [fac9, if_neg (by have := s.1; omega), if_pos s]
theorem fac9_w (R : R9 T i) (h : 28 ≤ kc9 T i ∧ kc9 T i ≤ 32) (ht : t < 120) : fac9 T can inner i t = brk9 T can inner (tV T i) (i + 1) (t + 1) := by
  have s := (kc_wr R).mp h
  rw [fac9, if_neg (by omega), if_neg (fun q => by have := q.1; omega), if_pos s, if_pos ht]
theorem fac9_wx (R : R9 T i) (h : 28 ≤ kc9 T i ∧ kc9 T i ≤ 32) (ht : ¬ t < 120) : fac9 T can inner i t = none := by
  have s := (kc_wr R).mp h
  rw [fac9, if_neg (by omega), if_neg (fun q => by have := q.1; omega), if_pos s, if_neg ht]
theorem fac9_o (R : R9 T i) (h1 : ¬ kc9 T i = 1) (h2 : ¬ kc9 T i = 6) (h3 : ¬ (28 ≤ kc9 T i ∧ kc9 T i ≤ 32)) : fac9 T can inner i t = none := by
  rw [fac9, if_neg (fun q => h1 ((kc_nm R).mpr q)), if_neg (fun q => h2 ((kc_sg R 3 (by decide)).mpr q)), if_neg (fun q => h3 ((kc_wr R).mpr q))]
theorem par9_f {neg : Bool} (R : R9 T i) (h : ¬ kc9 T i = 2) : par9 T can inner neg i t = (match fac9 T can inner i t with | none => none | some (f, j, u) => some (f ++ cN neg ++ [43], j, u)) := by
  rw [par9, if_neg (fun q => h ((kc_nu R).mpr q))]
  rfl
theorem par9_x {neg : Bool} (R : R9 T i) (h : kc9 T i = 2) (ht : ¬ t < 120) : par9 T can inner neg i t = none := by
  rw [par9, if_pos ((kc_nu R).mp h), if_neg ht]
theorem par9_n {neg : Bool} (R : R9 T i) (R1 : R9 T (i + 1)) (h : kc9 T i = 2) (ht : t < 120) (h2 : ¬ kc9 T (i + 1) = 13) : par9 T can inner neg i t = some ([2 + 64 * tV T i] ++ cN neg ++ [43], i + 1, t + 1) := by
  rw [par9, if_pos ((kc_nu R).mp h), if_pos ht, if_neg (fun q => h2 ((kc_sg R1 10 (by decide)).mpr q))]
theorem par9_tx {neg : Bool} (R : R9 T i) (R1 : R9 T (i + 1)) (h : kc9 T i = 2) (ht : t < 120) (h2 : kc9 T (i + 1) = 13) (hu : ¬ t + 1 < 120) : par9 T can inner neg i t = none := by
  rw [par9, if_pos ((kc_nu R).mp h), if_pos ht, if_pos ((kc_sg R1 10 (by decide)).mp h2), if_neg hu]
theorem par9_t {neg : Bool} (R : R9 T i) (R1 : R9 T (i + 1)) (h : kc9 T i = 2) (ht : t < 120) (h2 : kc9 T (i + 1) = 13) (hu : t + 1 < 120) : par9 T can inner neg i t = (match fac9 T can inner (i + 2) (t + 2) with | none => none | some (f, j, u) => some (f ++ [13 + 64 * tV T i] ++ cN neg ++ [43], j, u)) := by
  rw [par9, if_pos ((kc_nu R).mp h), if_pos ht, if_pos ((kc_sg R1 10 (by decide)).mp h2), if_pos hu]
  rfl
theorem brk9_x1 {w : Int} (R : R9 T i) (hc : can = true ↔ o < 12) (hx : ¬ (kc9 T i = 6 ∧ t < 120 ∧ o < 12)) : brk9 T can inner w i t = none := by
  rw [brk9, if_neg (fun q => hx ⟨(kc_sg R 3 (by decide)).mpr q.1, q.2.1, hc.mp q.2.2⟩)]
theorem brk9_x2 {w : Int} (e : inner (i + 1) (t + 1) = none) : brk9 T can inner w i t = none := by
  rw [brk9, e]
  split <;> rfl
theorem brk9_go {w : Int} {a : List Int} {j u : Nat} (R : R9 T i) (hc : can = true ↔ o < 12) (h1 : kc9 T i = 6) (h2 : t < 120) (h3 : o < 12) (e : inner (i + 1) (t + 1) = some (a, j, u)) : brk9 T can inner w i t = brkR T inner w a j u := by
  rw [brk9, e, if_pos ⟨(kc_sg R 3 (by decide)).mp h1, h2, hc.mpr h3⟩]
theorem two_x1 {w : Int} {a : List Int} {j u : Nat} (R : R9 T j) (hw : w = 9 ∨ w = 10) (hx : ¬ (kc9 T j = 8 ∧ u < 120)) : brkR T inner w a j u = none := by
  rw [brkR, if_pos hw, if_neg (fun q => hx ⟨(kc_sg R 5 (by decide)).mpr q.1, q.2⟩)]
theorem two_x2 {w : Int} {a : List Int} {j u : Nat} (hw : w = 9 ∨ w = 10) (e : inner (j + 1) (u + 1) = none) : brkR T inner w a j u = none := by
  rw [brkR, if_pos hw, e]
  split <;> rfl
theorem two_x3 {w : Int} {a c : List Int} {j u k x : Nat} (R : R9 T k) (hw : w = 9 ∨ w = 10) (e : inner (j + 1) (u + 1) = some (c, k, x)) (hx : ¬ (kc9 T k = 7 ∧ x < 120)) : brkR T inner w a j u = none := by
  rw [brkR, if_pos hw, e]
  split
  · show (if _ then _ else _) = none
    rw [if_neg (fun q => hx ⟨(kc_sg R 4 (by decide)).mpr q.1, q.2⟩)]
  · rfl
theorem two_ok {w : Int} {a c : List Int} {j u k x : Nat} (R : R9 T j) (R2 : R9 T k) (hw : w = 9 ∨ w = 10) (h1 : kc9 T j = 8) (h2 : u < 120) (e : inner (j + 1) (u + 1) = some (c, k, x)) (h3 : kc9 T k = 7) (h4 : x < 120) : brkR T inner w a j u = some (a ++ c ++ [if w = 10 then 30 else 29], k + 1, x + 1) := by
  rw [brkR, if_pos hw, if_pos ⟨(kc_sg R 5 (by decide)).mp h1, h2⟩, e]
  show (if _ then _ else _) = _
  rw [if_pos ⟨(kc_sg R2 4 (by decide)).mp h3, h4⟩]
theorem dm_x1 {w : Int} {a : List Int} {j u : Nat} (R : R9 T j) (hw : w = 11 ∨ w = 12) (hx : ¬ (kc9 T j = 8 ∧ u < 120)) : brkR T inner w a j u = none := by
  rw [brkR, if_neg (by omega), if_pos hw, if_neg (fun q => hx ⟨(kc_sg R 5 (by decide)).mpr q.1, by omega⟩)]
theorem dm_x2 {w : Int} {a : List Int} {j u : Nat} (R : R9 T (j + 1)) (hw : w = 11 ∨ w = 12) (hx : ¬ (kc9 T (j + 1) = 2 ∧ u + 1 < 120)) : brkR T inner w a j u = none := by
  rw [brkR, if_neg (by omega), if_pos hw, if_neg (fun q => hx ⟨(kc_nu R).mpr q.2.1, by omega⟩)]
theorem dm_x3 {w : Int} {a : List Int} {j u : Nat} (hw : w = 11 ∨ w = 12) (hx : ¬ (2 ≤ tV T (j + 1) ∧ tV T (j + 1) ≤ 12)) : brkR T inner w a j u = none := by
  rw [brkR, if_neg (by omega), if_pos hw, if_neg (fun q => hx ⟨q.2.2.1, q.2.2.2.1⟩)]
theorem dm_x4 {w : Int} {a : List Int} {j u : Nat} (R : R9 T (j + 2)) (hw : w = 11 ∨ w = 12) (hx : ¬ (kc9 T (j + 2) = 7 ∧ u + 2 < 120)) : brkR T inner w a j u = none := by
  rw [brkR, if_neg (by omega), if_pos hw, if_neg (fun q => hx ⟨(kc_sg R 4 (by decide)).mpr q.2.2.2.2.1, q.2.2.2.2.2⟩)]
theorem dm_ok {w : Int} {a : List Int} {j u : Nat} (R : R9 T j) (R1 : R9 T (j + 1)) (R2 : R9 T (j + 2)) (hw : w = 11 ∨ w = 12) (h1 : kc9 T j = 8) (h2 : kc9 T (j + 1) = 2) (h3 : 2 ≤ tV T (j + 1) ∧ tV T (j + 1) ≤ 12) (h4 : kc9 T (j + 2) = 7) (h5 : u + 2 < 120) : brkR T inner w a j u = some (a ++ [(if w = 12 then 32 else 31) + 64 * tV T (j + 1)], j + 3, u + 3) := by
  rw [brkR, if_neg (by omega), if_pos hw, if_pos ⟨(kc_sg R 5 (by decide)).mp h1, (kc_nu R1).mp h2, h3.1, h3.2, (kc_sg R2 4 (by decide)).mp h4, h5⟩]
theorem sng_x {w : Int} {a : List Int} {j u : Nat} (R : R9 T j) (hw : w = 3 ∨ w = 8) (hx : ¬ (kc9 T j = 7 ∧ u < 120)) : brkR T inner w a j u = none := by
  rw [brkR, if_neg (by omega), if_neg (by omega), if_neg (fun q => hx ⟨(kc_sg R 4 (by decide)).mpr q.1, q.2⟩)]
theorem sng_ok {w : Int} {a : List Int} {j u : Nat} (R : R9 T j) (hw : w = 3 ∨ w = 8) (h1 : kc9 T j = 7) (h2 : u < 120) : brkR T inner w a j u = some (if w = 8 then a ++ [28] else a, j + 1, u + 1) := by
  rw [brkR, if_neg (by omega), if_neg (by omega), if_pos ⟨(kc_sg R 4 (by decide)).mp h1, h2⟩]
end
theorem var_at {T : TkE} {i : Nat} {x : Int} {a : Int} (hx : x = tvr T a) (ha : tK T i = 3 ∨ tK T i = 4 → a = tN T i) (hk : kc9 T i = 1 ↔ tK T i = 3) : kc9 T i = 1 → x = tvr T (tN T i) := fun h => by rw [hx, ha (Or.inl (hk.mp h))]
theorem clm_at {T : TkE} {i : Nat} {x : Int} {a : Int} (hx : x = tcl T a) (ha : tK T i = 3 ∨ tK T i = 4 → a = tN T i) (hk : kc9 T i = 1 ↔ tK T i = 3) : kc9 T i = 1 → x = tcl T (tN T i) := fun h => by rw [hx, ha (Or.inl (hk.mp h))]
/-- what is asked of the terms that stand in brackets -/
def TC9 (T : TkE) (m : Nat) (inner : P9) (o sl : Int) (nd : Nat) : Prop := ∀ (G : kG9) {d : Nat}, nd ≤ d → ∀ (σ : St) (i t : Nat) (l : List Int), RL T m i t o sl l.length σ → STP9 sl l σ → l.length ≤ 4 * t → (gi σ 18 5).toInt ≤ 2000 → TOKS T m σ → ENV9 T σ → Ct G M_X8_term d [.ref 30] σ (fun r σ' => Fm [10, 11, 30] [] σ σ' ∧ (RES (inner i t) T m o sl l σ') ∧ True)
theorem name_in {T : TkE} {m i : Nat} {σ : St} {j : Int32} (P : TOKS T m σ) (h : j.toNatClampNeg = i) (hj : j.toNatClampNeg < m) (hk : tK T i = 3 ∨ tK T i = 4) : (gl σ 23 j.toNatClampNeg).toInt = tN T i := by
  subst h; exact (P.2.2.2.2 _ hj).2.2 hk
theorem name_out {T : TkE} {m i : Nat} {σ : St} {j : Int32} {x : Int} (P : TOKS T m σ) (h : j.toNatClampNeg = i) (hj : m ≤ j.toNatClampNeg ∧ i ≤ m) (hk : tK T i = 3 ∨ tK T i = 4) : x = tN T i := by
  have : i = m := by omega
  have c := P.2.2.1
  rw [this, c] at hk
  exact absurd hk (by decide)
theorem num_in {T : TkE} {m i : Nat} {σ : St} {j v : Int32} (e : gi σ 22 j.toNatClampNeg &&& 1048575 = v) (P : TOKS T m σ) (h : j.toNatClampNeg = i) (hj : j.toNatClampNeg < m) (hk : tK T i = 2) : v.toInt = tV T i ∧ 0 ≤ tV T i ∧ tV T i < 1000000 := by
  subst h
  have a := (P.2.2.2.2 _ hj).2.1 hk
  rw [i_and20 e]; exact a
theorem num_out {T : TkE} {m i : Nat} {σ : St} {j : Int32} {x : Int} (P : TOKS T m σ) (h : j.toNatClampNeg = i) (hj : m ≤ j.toNatClampNeg ∧ i ≤ m) (hk : tK T i = 2) : x = tV T i ∧ 0 ≤ tV T i ∧ tV T i < 1000000 := by
  have : i = m := by omega
  have c := P.2.2.1
  rw [this, c] at hk
  exact absurd hk (by decide)
theorem kind_in {T : TkE} {m i : Nat} {σ : St} {j : Int32} (P : TOKS T m σ) (h : j.toNatClampNeg = i) (hj : j.toNatClampNeg ≤ m) : (gi σ 20 j.toNatClampNeg).toInt = lx_kc (tK T i) (tV T i) := by
  subst h; exact (P.2.2.2.1 _ hj).1
theorem kind_out {T : TkE} {m i : Nat} {σ : St} {j : Int32} {x : Int} (P : TOKS T m σ) (h : j.toNatClampNeg = i) (hj : m ≤ j.toNatClampNeg ∧ i ≤ m) (hx : x = 0) : x = lx_kc (tK T i) (tV T i) := by
  have : i = m := by omega
  have c := P.2.2.1
  rw [this, c, hx]; simp [lx_kc]
theorem fst9_w {f : Nat → Int} {x : Int} {i j : Int32} (h : fst9 f x i.toNatClampNeg = -1) (hn : ¬ f i.toNatClampNeg = x) (h0 : 0 ≤ i.toInt) (hj : j.toInt = i.toInt + 1) : fst9 f x j.toNatClampNeg = -1 := by
  have e : j.toNatClampNeg = i.toNatClampNeg + 1 := by show j.toInt.toNat = i.toInt.toNat + 1; omega
  rw [e]; exact fst9_next h hn
theorem fst9_e {f : Nat → Int} {x : Int} {i : Int32} {n : Nat} (hv : f i.toNatClampNeg = x) (h : fst9 f x i.toNatClampNeg = -1) (hn : 0 ≤ i.toInt ∧ i.toNatClampNeg < n) : i.toInt = fst9 f x n := by
  rw [fst9_here h hv n hn.2]; show i.toInt = ((i.toInt.toNat : Nat) : Int); omega
theorem fst9_n {f : Nat → Int} {x v : Int} {i : Int32} {n : Nat} (h : fst9 f x i.toNatClampNeg = -1) (hv : v = -1) (h1 : n ≤ i.toNatClampNeg) (h2 : i.toNatClampNeg ≤ n) : v = fst9 f x n := by
  rw [show n = i.toNatClampNeg from by omega, h]; exact hv
