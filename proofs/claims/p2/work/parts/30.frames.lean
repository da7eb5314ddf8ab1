theorem m_i_remU {x y v : Int32} (h : x * y = v) : -2147483648 ≤ x.toInt * y.toInt → x.toInt * y.toInt < 2147483648 → v.toInt = x.toInt * y.toInt := i_mulT h
theorem s_i_remU {x y v : Int32} (h : x - y = v) : -2147483648 ≤ x.toInt - y.toInt → x.toInt - y.toInt < 2147483648 → v.toInt = x.toInt - y.toInt := i_subT h
theorem m_l_remU {x y v : Int64} (h : x * y = v) : -9223372036854775808 ≤ x.toInt * y.toInt → x.toInt * y.toInt < 9223372036854775808 → v.toInt = x.toInt * y.toInt := by
  subst h; intro h1 h2; rw [Int64.toInt_mul]; exact Int.bmod_eq_of_le (by omega) (by omega)
theorem s_l_remU {x y v : Int64} (h : x - y = v) : -9223372036854775808 ≤ x.toInt - y.toInt → x.toInt - y.toInt < 9223372036854775808 → v.toInt = x.toInt - y.toInt := by
  subst h; intro h1 h2; rw [Int64.toInt_sub]; exact Int.bmod_eq_of_le (by omega) (by omega)
theorem a_l_remU {x y v : Int64} (h : x + y = v) : -9223372036854775808 ≤ x.toInt + y.toInt → x.toInt + y.toInt < 9223372036854775808 → v.toInt = x.toInt + y.toInt := by
  subst h; intro h1 h2; rw [Int64.toInt_add]; exact Int.bmod_eq_of_le (by omega) (by omega)
theorem i_remU_dn {x y : Int32} (hy : 0 < y.toInt) : (x / y).toInt = x.toInt.tdiv y.toInt := Int32.toInt_div_of_ne_right _ _ (fun q => by rw [q] at hy; exact absurd hy (by decide))
theorem i_remU {x y v : Int32} (h : x - x / y * y = v) : 0 < y.toInt → v.toInt = x.toInt.tmod y.toInt ∧ -y.toInt < v.toInt ∧ v.toInt < y.toInt ∧ (0 ≤ x.toInt → 0 ≤ v.toInt ∧ v.toInt = x.toInt % y.toInt) ∧ (x.toInt ≤ 0 → v.toInt ≤ 0) := by
  intro hy
  have hT : x.toInt.tdiv y.toInt * y.toInt = x.toInt - x.toInt.tmod y.toInt := by
    have := Int.tmod_def x.toInt y.toInt
    rw [Int.mul_comm] at this
    omega
  have hd := i_remU_dn (x := x) hy
  have ux := Int32.toInt_lt x
  have wx := Int32.le_toInt x
  have h1 := m_i_remU (x := x / y) (y := y) (v := x / y * y) rfl
  have h2 := s_i_remU (x := x) (y := x / y * y) (v := v) h
  rw [hd, hT] at h1
  rcases Int.le_total 0 x.toInt with hx | hx
  · have a1 := Int.tmod_nonneg y.toInt hx
    have a2 := Int.tmod_lt_of_pos x.toInt hy
    have a3 : 0 ≤ x.toInt.tdiv y.toInt * y.toInt := Int.mul_nonneg (Int.tdiv_nonneg hx (Int.le_of_lt hy)) (Int.le_of_lt hy)
    rw [hT] at a3
    have h3 := h1 (by omega) (by omega)
    rw [h3] at h2
    have h4 := h2 (by omega) (by omega)
    have e4 : x.toInt.tmod y.toInt = x.toInt % y.toInt := Int.tmod_eq_emod_of_nonneg hx
    refine ⟨by omega, by omega, by omega, fun _ => ⟨by omega, by omega⟩, fun _ => by omega⟩
  · have b0 : 0 ≤ -x.toInt := by omega
    have a1 := Int.tmod_nonneg y.toInt b0
    have a2 := Int.tmod_lt_of_pos (-x.toInt) hy
    have a3 : 0 ≤ (-x.toInt).tdiv y.toInt * y.toInt := Int.mul_nonneg (Int.tdiv_nonneg b0 (Int.le_of_lt hy)) (Int.le_of_lt hy)
    rw [Int.neg_tdiv, Int.neg_mul, hT] at a3
    rw [Int.neg_tmod] at a1 a2
    have h3 := h1 (by omega) (by omega)
    rw [h3] at h2
    have h4 := h2 (by omega) (by omega)
    refine ⟨by omega, by omega, by omega, fun hz => ?_, fun _ => by omega⟩
    have e0 : x.toInt = 0 := by omega
    have e4 : x.toInt.tmod y.toInt = x.toInt % y.toInt := by rw [e0]; simp
    exact ⟨by omega, by omega⟩
theorem l_remU_dn {x y : Int64} (hy : 0 < y.toInt) : (x / y).toInt = x.toInt.tdiv y.toInt := Int64.toInt_div_of_ne_right _ _ (fun q => by rw [q] at hy; exact absurd hy (by decide))
theorem l_remU {x y v : Int64} (h : x - x / y * y = v) : 0 < y.toInt → v.toInt = x.toInt.tmod y.toInt ∧ -y.toInt < v.toInt ∧ v.toInt < y.toInt ∧ (0 ≤ x.toInt → 0 ≤ v.toInt ∧ v.toInt = x.toInt % y.toInt) ∧ (x.toInt ≤ 0 → v.toInt ≤ 0) := by
  intro hy
  have hT : x.toInt.tdiv y.toInt * y.toInt = x.toInt - x.toInt.tmod y.toInt := by
    have := Int.tmod_def x.toInt y.toInt
    rw [Int.mul_comm] at this
    omega
  have hd := l_remU_dn (x := x) hy
  have ux := Int64.toInt_lt x
  have wx := Int64.le_toInt x
  have h1 := m_l_remU (x := x / y) (y := y) (v := x / y * y) rfl
  have h2 := s_l_remU (x := x) (y := x / y * y) (v := v) h
  rw [hd, hT] at h1
  rcases Int.le_total 0 x.toInt with hx | hx
  · have a1 := Int.tmod_nonneg y.toInt hx
    have a2 := Int.tmod_lt_of_pos x.toInt hy
    have a3 : 0 ≤ x.toInt.tdiv y.toInt * y.toInt := Int.mul_nonneg (Int.tdiv_nonneg hx (Int.le_of_lt hy)) (Int.le_of_lt hy)
    rw [hT] at a3
    have h3 := h1 (by omega) (by omega)
    rw [h3] at h2
    have h4 := h2 (by omega) (by omega)
    have e4 : x.toInt.tmod y.toInt = x.toInt % y.toInt := Int.tmod_eq_emod_of_nonneg hx
    refine ⟨by omega, by omega, by omega, fun _ => ⟨by omega, by omega⟩, fun _ => by omega⟩
  · have b0 : 0 ≤ -x.toInt := by omega
    have a1 := Int.tmod_nonneg y.toInt b0
    have a2 := Int.tmod_lt_of_pos (-x.toInt) hy
    have a3 : 0 ≤ (-x.toInt).tdiv y.toInt * y.toInt := Int.mul_nonneg (Int.tdiv_nonneg b0 (Int.le_of_lt hy)) (Int.le_of_lt hy)
    rw [Int.neg_tdiv, Int.neg_mul, hT] at a3
    rw [Int.neg_tmod] at a1 a2
    have h3 := h1 (by omega) (by omega)
    rw [h3] at h2
    have h4 := h2 (by omega) (by omega)
    refine ⟨by omega, by omega, by omega, fun hz => ?_, fun _ => by omega⟩
    have e0 : x.toInt = 0 := by omega
    have e4 : x.toInt.tmod y.toInt = x.toInt % y.toInt := by rw [e0]; simp
    exact ⟨by omega, by omega⟩
theorem i_divU {x y v : Int32} (h : x / y = v) : 0 < y.toInt → v.toInt = x.toInt.tdiv y.toInt ∧ (0 ≤ x.toInt → v.toInt = x.toInt / y.toInt) ∧ (x.toInt ≤ 0 → x.toInt ≤ v.toInt ∧ v.toInt ≤ 0) := by
  intro hy
  subst h
  have hd := i_remU_dn (x := x) hy
  refine ⟨hd, fun hx => ?_, fun hx => ?_⟩
  · rw [hd, Int.tdiv_eq_ediv_of_nonneg hx]
  · rw [hd]
    have b0 : 0 ≤ -x.toInt := by omega
    have a1 := Int.tdiv_nonneg b0 (Int.le_of_lt hy)
    have a2 : (-x.toInt).tdiv y.toInt ≤ -x.toInt := by
      rw [Int.tdiv_eq_ediv_of_nonneg b0]
      exact Int.ediv_le_self _ b0
    rw [Int.neg_tdiv] at a1 a2
    omega
theorem i_shlU {x y v : Int32} (h : x <<< (y &&& 31) = v) : x = 1 → 0 ≤ y.toInt → y.toInt ≤ 4 → 1 ≤ v.toInt ∧ v.toInt ≤ 16 := by
  intro hx h0 h4
  subst hx
  have hy : y = 0 ∨ y = 1 ∨ y = 2 ∨ y = 3 ∨ y = 4 := by
    simp only [← Int32.toInt_inj, Int32.reduceToInt]
    omega
  rcases hy with rfl | rfl | rfl | rfl | rfl <;> subst h <;> decide
/-- the rows of places of one digest: each place's next one lies before it -/
def CHA (σ : St) : Prop := ∀ k : Nat, (k : Int) < (gi σ 84 129).toInt → -1 ≤ (gi σ 126 k).toInt ∧ (gi σ 126 k).toInt < k
def HDS (σ : St) : Prop := ∀ k : Nat, k < 32768 → -1 ≤ (gi σ 127 k).toInt ∧ (gi σ 127 k).toInt < (gi σ 84 129).toInt
theorem CHA_of {s s' : St} (e1 : ∀ k, gi s' 126 k = gi s 126 k) (e2 : gi s' 84 129 = gi s 84 129) (h : CHA s) : CHA s' := fun k hk => by
  rw [e1]; rw [e2] at hk; exact h k hk
theorem HDS_of {s s' : St} (e1 : ∀ k, gi s' 127 k = gi s 127 k) (e2 : gi s' 84 129 = gi s 84 129) (h : HDS s) : HDS s' := fun k hk => by
  rw [e1, e2]; exact h k hk
theorem cha_at {s : St} (h : CHA s) {k : Nat} {v : Int32} (e : gi s 126 k = v) (hk : (k : Int) < (gi s 84 129).toInt) : -1 ≤ v.toInt ∧ v.toInt < k := by rw [← e]; exact h k hk
theorem hds_at {s : St} (h : HDS s) {k : Nat} {v : Int32} (e : gi s 127 k = v) (hk : k < 32768) : -1 ≤ v.toInt ∧ v.toInt < (gi s 84 129).toInt := by rw [← e]; exact h k hk
theorem cha_add {s0 s1 s2 s3 : St} {v w x : Int32} {n h : Nat} (e1 : s1 = si s0 126 n v) (e2 : s2 = si s1 127 h w) (e3 : s3 = si s2 84 129 x) (c : CHA s0) (d : HDS s0) (hn : (n : Int) = (gi s0 84 129).toInt) (hv : v = gi s0 127 h) (hh : h < 32768) (hw : w = gi s0 84 129) (hx : x.toInt = (gi s0 84 129).toInt + 1) : CHA s3 ∧ HDS s3 := by
  have p3 : gi s3 84 129 = x := by rw [e3]; simp [gi, si, up2]
  have c3 : ∀ k, gi s3 126 k = if k = n then v else gi s0 126 k := fun k => by
    rw [e3, e2, e1]; simp [gi, si, up2]
  have h3 : ∀ k, gi s3 127 k = if k = h then w else gi s0 127 k := fun k => by
    rw [e3, e2, e1]; simp [gi, si, up2]
  refine ⟨fun k hk => ?_, fun k hk => ?_⟩
  · rw [c3]
    rw [p3, hx] at hk
    by_cases e : k = n
    · rw [if_pos e, hv, e, hn]; exact d h hh
    · rw [if_neg e]; exact c k (by omega)
  · rw [h3, p3, hx]
    by_cases e : k = h
    · rw [if_pos e, hw]; omega
    · rw [if_neg e]; have := d k hk; omega
theorem hds_new {s0 s : St} {x : Int32} (e : s = si s0 84 129 x) (hx : x.toInt = 0) (h : ∀ k : Nat, k < 32768 → (gi s0 127 k).toInt = -1) : HDS s ∧ CHA s := by
  have p3 : gi s 84 129 = x := by rw [e]; simp [gi, si, up2]
  refine ⟨fun k hk => ?_, fun k hk => ?_⟩
  · have := h k hk
    rw [p3, hx, e]
    simp only [gi, si, up2] at this ⊢
    simp
    omega
  · rw [p3, hx] at hk; omega
/-- a loop that fills an array from its beginning on -/
def FILL (P : Int → Prop) (σ : St) (q n : Nat) : Prop := ∀ k : Nat, k < n → P (gi σ q k).toInt
theorem fill_0 {P : Int → Prop} {σ : St} {q : Nat} : FILL P σ q 0 := fun k h => absurd h (Nat.not_lt_zero k)
theorem fill_w {P : Int → Prop} {s s' : St} {q n : Nat} {v : Int32} (e : s' = si s q n v) (hv : P v.toInt) (h : FILL P s q n) : FILL P s' q (n + 1) := fun k hk => by
  subst e
  by_cases c : k = n
  · subst c; simpa [gi, si, up2] using hv
  · have := h k (by omega); simpa [gi, si, up2, c] using this
theorem all_w {P : Int → Prop} {s s' : St} {q : Nat} {i j : Int32} {v : Int32} (e : s' = si s q i.toNatClampNeg v) (hv : P v.toInt) (h : ∀ k : Nat, (k : Int) < i.toInt → P (gi s q k).toInt) (hi : 0 ≤ i.toInt) (hj : j.toInt = i.toInt + 1) : ∀ k : Nat, (k : Int) < j.toInt → P (gi s' q k).toInt := fun k hk => by
  subst e
  have e9 : i.toNatClampNeg = i.toInt.toNat := rfl
  by_cases c : k = i.toNatClampNeg
  · subst c; simpa [gi, si, up2] using hv
  · have := h k (by omega); simpa [gi, si, up2, c] using this
/-- what stands for a divisor in a place: always or never, or 16 times its modulus and its number -/
def DVo (w v : Int) : Prop := w ≤ 0 ∨ v < 0 ∨ (16 ≤ v ∧ v ≤ 207)
def DI (σ : St) : Prop := ∀ k : Nat, (k : Int) < (gi σ 84 119).toInt → DVo (gi σ 135 k).toInt (gi σ 125 k).toInt
def DV (σ : St) : Prop := ∀ p k : Nat, (p : Int) < (gi σ 84 129).toInt → (k : Int) < (gi σ 84 119).toInt → k < 32 → DVo (gi σ 135 k).toInt (gi σ 129 (32 * p + k)).toInt
def WOK (σ : St) : Prop := ∀ k : Nat, 0 < (gi σ 135 k).toInt → 0 ≤ (gi σ 136 k).toInt ∧ (gi σ 136 k).toInt ≤ 11
theorem DI_of {s s' : St} (e1 : ∀ k, gi s' 125 k = gi s 125 k) (e2 : ∀ k, gi s' 135 k = gi s 135 k) (e3 : gi s' 84 119 = gi s 84 119) (h : DI s) : DI s' := fun k hk => by
  rw [e1, e2]; rw [e3] at hk; exact h k hk
theorem DV_of {s s' : St} (e1 : ∀ k, gi s' 129 k = gi s 129 k) (e2 : ∀ k, gi s' 135 k = gi s 135 k) (e3 : gi s' 84 119 = gi s 84 119) (e4 : gi s' 84 129 = gi s 84 129) (h : DV s) : DV s' := fun p k hp hk h32 => by
  rw [e1, e2]; rw [e3] at hk; rw [e4] at hp; exact h p k hp hk h32
theorem WOK_of {s s' : St} (e1 : ∀ k, gi s' 135 k = gi s 135 k) (e2 : ∀ k, gi s' 136 k = gi s 136 k) (h : WOK s) : WOK s' := fun k hk => by
  rw [e2]; rw [e1] at hk; exact h k hk
theorem dv_w {s s' : St} {n : Nat} {v : Int32} (e : s' = si s 129 n v) (h : DV s) (hn : 32 * (gi s 84 129).toInt ≤ (n : Int)) : DV s' := fun p k hp hk h32 => by
  subst e
  have h1 : gi (si s 129 n v) 129 (32 * p + k) = gi s 129 (32 * p + k) := by
    have : ¬ 32 * p + k = n := by
      have hp' : (p : Int) < (gi s 84 129).toInt := by simpa [gi, si, up2] using hp
      omega
    simp [gi, si, up2, this]
  rw [h1]
  have hp' : (p : Int) < (gi s 84 129).toInt := by simpa [gi, si, up2] using hp
  have hk' : (k : Int) < (gi s 84 119).toInt := by simpa [gi, si, up2] using hk
  simpa [gi, si, up2] using h p k hp' hk' h32
theorem dv_add {s0 s1 s2 s3 : St} {v w x : Int32} {n h : Nat} (e1 : s1 = si s0 126 n v) (e2 : s2 = si s1 127 h w) (e3 : s3 = si s2 84 129 x) (c : DV s0) (d : DI s0) (hx : x.toInt = (gi s0 84 129).toInt + 1) (h0 : 0 ≤ (gi s0 84 129).toInt) (hr : ∀ k : Nat, (k : Int) < (gi s0 84 119).toInt → gi s0 129 (32 * (gi s0 84 129).toInt.toNat + k) = gi s0 125 k) : DV s3 := fun p k hp hk h32 => by
  have p3 : gi s3 84 129 = x := by rw [e3]; simp [gi, si, up2]
  have q1 : gi s3 84 119 = gi s0 84 119 := by rw [e3, e2, e1]; simp [gi, si, up2]
  have q2 : ∀ k, gi s3 129 k = gi s0 129 k := fun k => by rw [e3, e2, e1]; simp [gi, si, up2]
  have q3 : ∀ k, gi s3 135 k = gi s0 135 k := fun k => by rw [e3, e2, e1]; simp [gi, si, up2]
  rw [p3, hx] at hp
  rw [q1] at hk
  rw [q2, q3]
  by_cases e : (p : Int) < (gi s0 84 129).toInt
  · exact c p k e hk h32
  · have e' : p = (gi s0 84 129).toInt.toNat := by omega
    rw [e', hr k hk]
    exact d k hk
theorem row_w {s s' : St} {i j : Int32} {v : Int32} {n : Nat} (e : s' = si s 129 n v) (hn : (n : Int) = 32 * (gi s 84 129).toInt + i.toInt) (h0 : 0 ≤ (gi s 84 129).toInt) (hi : 0 ≤ i.toInt) (hj : j.toInt = i.toInt + 1) (hv : v = gi s 125 i.toNatClampNeg) (h : ∀ k : Nat, (k : Int) < i.toInt → gi s 129 (32 * (gi s 84 129).toInt.toNat + k) = gi s 125 k) : ∀ k : Nat, (k : Int) < j.toInt → gi s' 129 (32 * (gi s' 84 129).toInt.toNat + k) = gi s' 125 k := fun k hk => by
  subst e
  have e9 : i.toNatClampNeg = i.toInt.toNat := rfl
  have a1 : gi (si s 129 n v) 84 129 = gi s 84 129 := by simp [gi, si, up2]
  have a2 : gi (si s 129 n v) 125 k = gi s 125 k := by simp [gi, si, up2]
  rw [a1, a2]
  by_cases c : (k : Int) < i.toInt
  · have : ¬ 32 * (gi s 84 129).toInt.toNat + k = n := by omega
    rw [← h k c]
    simp [gi, si, up2]
    intro q
    exact absurd q this
  · have c' : k = i.toNatClampNeg := by omega
    have : 32 * (gi s 84 129).toInt.toNat + k = n := by omega
    rw [this, c', ← hv]
    simp [gi, si, up2]
theorem dv_at {s : St} (h : DV s) {p k ix : Nat} {v : Int32} (e : gi s 129 ix = v) (hix : ix = 32 * p + k) (hp : (p : Int) < (gi s 84 129).toInt) (hk : (k : Int) < (gi s 84 119).toInt) (h32 : k < 32) : DVo (gi s 135 k).toInt v.toInt := by rw [← e, hix]; exact h p k hp hk h32
theorem dv_new {s0 s : St} {x : Int32} (e : s = si s0 84 129 x) (hx : x.toInt = 0) : DV s := fun p k hp _ _ => by
  have p3 : gi s 84 129 = x := by rw [e]; simp [gi, si, up2]
  rw [p3, hx] at hp; omega
theorem di_w {s s' : St} {i j : Int32} {v : Int32} (e : s' = si s 125 i.toNatClampNeg v) (hv : DVo (gi s 135 i.toNatClampNeg).toInt v.toInt) (h : ∀ k : Nat, (k : Int) < i.toInt → DVo (gi s 135 k).toInt (gi s 125 k).toInt) (hi : 0 ≤ i.toInt) (hj : j.toInt = i.toInt + 1) : ∀ k : Nat, (k : Int) < j.toInt → DVo (gi s' 135 k).toInt (gi s' 125 k).toInt := fun k hk => by
  subst e
  have e9 : i.toNatClampNeg = i.toInt.toNat := rfl
  by_cases c : k = i.toNatClampNeg
  · subst c; simpa [gi, si, up2] using hv
  · have := h k (by omega); simpa [gi, si, up2, c] using this
theorem i_shl1 {y v : Int32} (h : (1 : Int32) <<< (y &&& 31) = v) : 0 ≤ y.toInt → y.toInt ≤ 4 → 1 ≤ v.toInt ∧ v.toInt ≤ 16 := i_shlU h rfl
/-- an atom of a slot and a row at work are alike -/
def EQR (σ : St) (x k : Nat) : Prop := (gi σ 157 x = gi σ 135 k ∧ gi σ 158 x = gi σ 136 k) ∧ ∀ v : Nat, v < 4 → gi σ 159 (4 * x + v) = gi σ 137 (4 * k + v)
theorem bs_0t {E : Prop} {F : Nat → Prop} {i : Int32} (hi : i.toInt = 0) (hE : E) : true = true ↔ E ∧ ∀ v : Nat, (v : Int) < i.toInt → F v := ⟨fun _ => ⟨hE, fun v hv => by omega⟩, fun _ => rfl⟩
theorem bs_0f {E : Prop} {F : Nat → Prop} {i : Int32} (hi : i.toInt = 0) (hE : ¬ E) : false = true ↔ E ∧ ∀ v : Nat, (v : Int) < i.toInt → F v := ⟨fun h => (nomatch h), fun h => absurd h.1 hE⟩
theorem bs_tt {E : Prop} {F : Nat → Prop} {b : Bool} {i j : Int32} (h : b = true ↔ E ∧ ∀ v : Nat, (v : Int) < i.toInt → F v) (hb : b = true) (hi : 0 ≤ i.toInt) (hj : j.toInt = i.toInt + 1) (hF : F i.toNatClampNeg) : true = true ↔ E ∧ ∀ v : Nat, (v : Int) < j.toInt → F v := ⟨fun _ => ⟨(h.mp hb).1, fun v hv => by
  have e9 : i.toNatClampNeg = i.toInt.toNat := rfl
  by_cases c : v = i.toNatClampNeg
  · rw [c]; exact hF
  · exact (h.mp hb).2 v (by omega)⟩, fun _ => rfl⟩
theorem bs_tf {E : Prop} {F : Nat → Prop} {i j : Int32} (hi : 0 ≤ i.toInt) (hj : j.toInt = i.toInt + 1) (hF : ¬ F i.toNatClampNeg) : false = true ↔ E ∧ ∀ v : Nat, (v : Int) < j.toInt → F v := ⟨fun h => (nomatch h), fun h => absurd (h.2 i.toNatClampNeg (by
  have e9 : i.toNatClampNeg = i.toInt.toNat := rfl
  omega)) hF⟩
theorem bs_ff {E : Prop} {F : Nat → Prop} {b : Bool} {i j : Int32} (h : b = true ↔ E ∧ ∀ v : Nat, (v : Int) < i.toInt → F v) (hb : b = false) (hj : j.toInt = i.toInt + 1) : false = true ↔ E ∧ ∀ v : Nat, (v : Int) < j.toInt → F v := ⟨fun h => (nomatch h), fun h9 => by
  have := h.mpr ⟨h9.1, fun v hv => h9.2 v (by omega)⟩
  rw [hb] at this; cases this⟩
theorem eqr_of {σ : St} {X K : Nat} {b : Bool} {i : Int32} (h : b = true ↔ (gi σ 157 X = gi σ 135 K ∧ gi σ 158 X = gi σ 136 K) ∧ ∀ v : Nat, (v : Int) < i.toInt → gi σ 159 (4 * X + v) = gi σ 137 (4 * K + v)) (hb : b = true) (hi : 4 ≤ i.toInt) : EQR σ X K := ⟨(h.mp hb).1, fun v hv => (h.mp hb).2 v (by omega)⟩
theorem eqr_not {σ : St} {X K : Nat} {b : Bool} {i : Int32} (h : b = true ↔ (gi σ 157 X = gi σ 135 K ∧ gi σ 158 X = gi σ 136 K) ∧ ∀ v : Nat, (v : Int) < i.toInt → gi σ 159 (4 * X + v) = gi σ 137 (4 * K + v)) (hb : b = false) (hi : i.toInt ≤ 4) : ¬ EQR σ X K := fun q => by
  have := h.mpr ⟨q.1, fun v hv => q.2 v (by omega)⟩
  rw [hb] at this; cases this
theorem no_step {P : Nat → Prop} {i j : Int32} (h : ∀ k : Nat, (k : Int) < i.toInt → ¬ P k) (hi : 0 ≤ i.toInt) (hj : j.toInt = i.toInt + 1) (hn : ¬ P i.toNatClampNeg) : ∀ k : Nat, (k : Int) < j.toInt → ¬ P k := fun k hk => by
  have e9 : i.toNatClampNeg = i.toInt.toNat := rfl
  by_cases c : k = i.toNatClampNeg
  · rw [c]; exact hn
  · exact h k (by omega)
theorem no_0 {P : Nat → Prop} {i : Int32} (hi : i.toInt ≤ 0) : ∀ k : Nat, (k : Int) < i.toInt → P k := fun k hk => by omega
/-- nodes of a slot: what they name and what comes behind them lies where it has to -/
def NK (σ : St) (s k : Nat) : Prop := ((gi σ 198 k).toInt = 20 → 0 ≤ (gi σ 197 k).toInt ∧ (gi σ 197 k).toInt < 24 ∧ (gi σ 197 k).toInt < s) ∧ ((gi σ 198 k).toInt = 21 → 61 * (s : Int) ≤ (gi σ 197 k).toInt ∧ (gi σ 197 k).toInt < 61 * (s : Int) + (gi σ 183 s).toInt) ∧ ((gi σ 198 k).toInt = 16 ∨ (gi σ 198 k).toInt = 17 → 0 ≤ (gi σ 196 k).toInt ∧ (gi σ 196 k).toInt < 6500) ∧ ((gi σ 198 k).toInt = 5 ∨ (gi σ 198 k).toInt = 16 ∨ (gi σ 198 k).toInt = 17 → 0 ≤ (gi σ 197 k).toInt ∧ (gi σ 197 k).toInt < 6500) ∧ (¬ ((gi σ 198 k).toInt = 6 ∨ (gi σ 198 k).toInt = 7 ∨ (gi σ 198 k).toInt = 5 ∨ (gi σ 198 k).toInt = 20 ∨ (gi σ 198 k).toInt = 21 ∨ (gi σ 198 k).toInt = 16 ∨ (gi σ 198 k).toInt = 17) → 250 * (s : Int) ≤ (gi σ 197 k).toInt ∧ (gi σ 197 k).toInt < 250 * (s : Int) + (gi σ 194 s).toInt) ∧ ((gi σ 195 k).toInt = -1 ∨ ((k : Int) < (gi σ 195 k).toInt ∧ (gi σ 195 k).toInt < 250 * (s : Int) + (gi σ 194 s).toInt))
def NOK (σ : St) : Prop := ∀ s k : Nat, s < 25 → 250 * s ≤ k → (k : Int) < 250 * (s : Int) + (gi σ 194 s).toInt → NK σ s k
theorem NOK_of {s s' : St} (e1 : ∀ k, gi s' 194 k = gi s 194 k) (e2 : ∀ k, gi s' 195 k = gi s 195 k) (e3 : ∀ k, gi s' 196 k = gi s 196 k) (e4 : ∀ k, gi s' 197 k = gi s 197 k) (e5 : ∀ k, gi s' 198 k = gi s 198 k) (e6 : ∀ k, gi s' 183 k = gi s 183 k) (h : NOK s) : NOK s' := fun a k h1 h2 h3 => by
  rw [e1] at h3
  have := h a k h1 h2 h3
  unfold NK at this ⊢
  rw [e1, e2, e3, e4, e5, e6]
  exact this
/-- literals of cases speak of atoms that there are -/
def CLI (σ : St) : Prop := ∀ s l c i : Nat, s < 25 → 61 * s ≤ l → (l : Int) < 61 * (s : Int) + (gi σ 183 s).toInt → (gi σ 185 l).toInt ≤ c → (c : Int) < (gi σ 185 l).toInt + (gi σ 184 l).toInt → i < 8 → (gi σ 155 (8 * c + i)).toInt < 2 * (gi σ 156 s).toInt
theorem CLI_of {s s' : St} (e1 : ∀ k, gi s' 183 k = gi s 183 k) (e2 : ∀ k, gi s' 185 k = gi s 185 k) (e3 : ∀ k, gi s' 184 k = gi s 184 k) (e4 : ∀ k, gi s' 155 k = gi s 155 k) (e5 : ∀ k, gi s' 156 k = gi s 156 k) (h : CLI s) : CLI s' := fun a l c i h1 h2 h3 h4 h5 h6 => by
  rw [e1] at h3; rw [e2] at h4; rw [e2, e3] at h5
  rw [e4, e5]
  exact h a l c i h1 h2 h3 h4 h5 h6
/-- each atom of a slot that is needed has its own at work -/
def WKS (σ : St) : Prop := ∀ s i : Nat, s < 25 → gb σ 133 s = true → (i : Int) < (gi σ 156 s).toInt → 0 ≤ (gi σ 134 (24 * s + i)).toInt ∧ (gi σ 134 (24 * s + i)).toInt < 700
theorem WKS_of {s s' : St} (e1 : ∀ k, gb s' 133 k = gb s 133 k) (e2 : ∀ k, gi s' 156 k = gi s 156 k) (e3 : ∀ k, gi s' 134 k = gi s 134 k) (h : WKS s) : WKS s' := fun a i h1 h2 h3 => by
  rw [e1] at h2; rw [e2] at h3; rw [e3]; exact h a i h1 h2 h3
/-- atoms that are alike -/
def EQA (σ : St) (x y : Nat) : Prop := (gi σ 157 x = gi σ 157 y ∧ gi σ 158 x = gi σ 158 y) ∧ ∀ v : Nat, v < 4 → gi σ 159 (4 * x + v) = gi σ 159 (4 * y + v)
/-- a slot has all atoms of those that it names -/
def NAT (σ : St) : Prop := ∀ s k c i : Nat, s < 25 → 250 * s ≤ k → (k : Int) < 250 * (s : Int) + (gi σ 194 s).toInt → (gi σ 198 k).toInt = 20 → (gi σ 197 k).toInt = c → (i : Int) < (gi σ 156 c).toInt → ∃ j : Nat, (j : Int) < (gi σ 156 s).toInt ∧ EQA σ (24 * c + i) (24 * s + j)
theorem NAT_of {s s' : St} (e1 : ∀ k, gi s' 194 k = gi s 194 k) (e2 : ∀ k, gi s' 198 k = gi s 198 k) (e3 : ∀ k, gi s' 197 k = gi s 197 k) (e4 : ∀ k, gi s' 156 k = gi s 156 k) (e5 : ∀ k, gi s' 157 k = gi s 157 k) (e6 : ∀ k, gi s' 158 k = gi s 158 k) (e7 : ∀ k, gi s' 159 k = gi s 159 k) (h : NAT s) : NAT s' := fun a k c i h1 h2 h3 h4 h5 h6 => by
  rw [e1] at h3; rw [e2] at h4; rw [e3] at h5; rw [e4] at h6
  obtain ⟨j, q1, q2, q3⟩ := h a k c i h1 h2 h3 h4 h5 h6
  refine ⟨j, by rw [e4]; exact q1, ?_, fun v hv => ?_⟩
  · rw [e5, e5, e6, e6]; exact q2
  · rw [e7, e7]; exact q3 v hv
/-- the atoms of all slots that are needed are at work -/
def INW (σ : St) : Prop := ∀ s i : Nat, s < 26 → gb σ 133 s = true → (i : Int) < (gi σ 156 s).toInt → ∃ k : Nat, (k : Int) < (gi σ 84 119).toInt ∧ EQR σ (24 * s + i) k
theorem EQR_of {s s' : St} {x k : Nat} (e1 : ∀ k, gi s' 157 k = gi s 157 k) (e2 : ∀ k, gi s' 158 k = gi s 158 k) (e3 : ∀ k, gi s' 159 k = gi s 159 k) (e4 : ∀ k, gi s' 135 k = gi s 135 k) (e5 : ∀ k, gi s' 136 k = gi s 136 k) (e6 : ∀ k, gi s' 137 k = gi s 137 k) (h : EQR s x k) : EQR s' x k := by
  unfold EQR at h ⊢
  refine ⟨by rw [e1, e2, e4, e5]; exact h.1, fun v hv => by rw [e3, e6]; exact h.2 v hv⟩
theorem INW_of {s s' : St} (e0 : ∀ k, gb s' 133 k = gb s 133 k) (e9 : ∀ k, gi s' 156 k = gi s 156 k) (e8 : gi s' 84 119 = gi s 84 119) (e1 : ∀ k, gi s' 157 k = gi s 157 k) (e2 : ∀ k, gi s' 158 k = gi s 158 k) (e3 : ∀ k, gi s' 159 k = gi s 159 k) (e4 : ∀ k, gi s' 135 k = gi s 135 k) (e5 : ∀ k, gi s' 136 k = gi s 136 k) (e6 : ∀ k, gi s' 137 k = gi s 137 k) (h : INW s) : INW s' := fun a i h1 h2 h3 => by
  rw [e0] at h2; rw [e9] at h3
  obtain ⟨k, q1, q2⟩ := h a i h1 h2 h3
  exact ⟨k, by rw [e8]; exact q1, EQR_of e1 e2 e3 e4 e5 e6 q2⟩
theorem eqr_eqa {σ : St} {x y k : Nat} (h : EQA σ x y) (g : EQR σ y k) : EQR σ x k := ⟨⟨h.1.1.trans g.1.1, h.1.2.trans g.1.2⟩, fun v hv => (h.2 v hv).trans (g.2 v hv)⟩
/-- a slot that is named comes to those that are needed -/
theorem inw_need {s s' : St} {c a k : Nat} (e : s' = sb s 133 c true) (h : INW s) (n : NAT s) (ha : a < 25) (hn : gb s 133 a = true) (h2 : 250 * a ≤ k) (h3 : (k : Int) < 250 * (a : Int) + (gi s 194 a).toInt) (h4 : (gi s 198 k).toInt = 20) (h5 : (gi s 197 k).toInt = c) : INW s' := fun b i hb1 hb2 hb3 => by
  subst e
  have f1 : ∀ q k, gi (sb s 133 c true) q k = gi s q k := fun _ _ => rfl
  have tr : ∀ {x k}, EQR s x k → EQR (sb s 133 c true) x k := fun q => q
  rw [f1] at hb3
  by_cases q : b = c
  · subst q
    obtain ⟨j, j1, j2⟩ := n a k b i ha h2 h3 h4 h5 hb3
    obtain ⟨r, r1, r2⟩ := h a j (by omega) hn j1
    exact ⟨r, r1, tr (eqr_eqa j2 r2)⟩
  · have hb2' : gb s 133 b = true := by simpa [gb, sb, up2, q] using hb2
    obtain ⟨r, r1, r2⟩ := h b i hb1 hb2' hb3
    exact ⟨r, r1, tr r2⟩
def AOK (σ : St) : Prop := ∀ x : Nat, 0 < (gi σ 157 x).toInt → 0 ≤ (gi σ 158 x).toInt ∧ (gi σ 158 x).toInt ≤ 11
theorem AOK_of {s s' : St} (e1 : ∀ k, gi s' 157 k = gi s 157 k) (e2 : ∀ k, gi s' 158 k = gi s 158 k) (h : AOK s) : AOK s' := fun k hk => by
  rw [e2]; rw [e1] at hk; exact h k hk
theorem wok_add {s0 s1 s2 : St} {n x : Nat} {v w : Int32} (e1 : s1 = si s0 135 n v) (e2 : s2 = si s1 136 n w) (h : WOK s0) (a : AOK s0) (hv : gi s0 157 x = v) (hw : gi s1 158 x = w) : WOK s2 := fun k hk => by
  have hw' : gi s0 158 x = w := by rw [← hw, e1]; simp [gi, si, up2]
  by_cases c : k = n
  · subst c
    have a1 : gi s2 135 k = v := by rw [e2, e1]; simp [gi, si, up2]
    have a2 : gi s2 136 k = w := by rw [e2]; simp [gi, si, up2]
    rw [a1, ← hv] at hk
    rw [a2, ← hw']
    exact a x hk
  · have a1 : gi s2 135 k = gi s0 135 k := by rw [e2, e1]; simp [gi, si, up2, c]
    have a2 : gi s2 136 k = gi s0 136 k := by rw [e2, e1]; simp [gi, si, up2, c]
    rw [a1] at hk
    rw [a2]
    exact h k hk
/-- as INW, while the atoms of one slot are put to work -/
def INWP (σ : St) (c x : Nat) : Prop := (∀ s i : Nat, s < 26 → ¬ s = c → gb σ 133 s = true → (i : Int) < (gi σ 156 s).toInt → ∃ k : Nat, (k : Int) < (gi σ 84 119).toInt ∧ EQR σ (24 * s + i) k) ∧ ∀ y : Nat, 24 * c ≤ y → y < x → ∃ k : Nat, (k : Int) < (gi σ 84 119).toInt ∧ EQR σ y k
theorem inwp_0 {s s' : St} {c x : Nat} {b : Bool} (e : s' = sb s 133 c b) (h : INW s) (hx : x ≤ 24 * c) : INWP s' c x := by
  subst e
  refine ⟨fun a i h1 h2 h3 h4 => ?_, fun y h1 h2 => by omega⟩
  have h3' : gb s 133 a = true := by simpa [gb, sb, up2, h2] using h3
  obtain ⟨k, k1, k2⟩ := h a i h1 h3' h4
  exact ⟨k, k1, k2⟩
theorem inwp_next {s : St} {c x x' k : Nat} (h : INWP s c x) (hk : (k : Int) < (gi s 84 119).toInt) (hE : EQR s x k) (hx : x' = x + 1) : INWP s c x' := ⟨h.1, fun y h1 h2 => by
  by_cases q : y = x
  · subst q; exact ⟨k, hk, hE⟩
  · exact h.2 y h1 (by omega)⟩
theorem inwp_done {s : St} {c x : Nat} (h : INWP s c x) (hx : 24 * (c : Int) + (gi s 156 c).toInt ≤ x) : INW s := fun a i h1 h2 h3 => by
  by_cases q : a = c
  · subst q; exact h.2 (24 * a + i) (by omega) (by omega)
  · exact h.1 a i h1 q h2 h3
theorem eqr_w5 {s s' : St} {n x k : Nat} {v : Int32} (e : s' = si s 135 n v) (hk : ¬ k = n) (h : EQR s x k) : EQR s' x k := by
  subst e
  unfold EQR at h ⊢
  simpa [gi, si, up2, hk] using h
theorem eqr_w6 {s s' : St} {n x k : Nat} {v : Int32} (e : s' = si s 136 n v) (hk : ¬ k = n) (h : EQR s x k) : EQR s' x k := by
  subst e
  unfold EQR at h ⊢
  simpa [gi, si, up2, hk] using h
theorem eqr_w7 {s s' : St} {n x k : Nat} {v : Int32} (e : s' = si s 137 n v) (hk : 4 * k + 4 ≤ n) (h : EQR s x k) : EQR s' x k := by
  subst e
  refine ⟨h.1, fun j hj => ?_⟩
  have : ¬ 4 * k + j = n := by omega
  have h2 := h.2 j hj
  simpa [gi, si, up2, this] using h2
theorem eqr_wk {s s' : St} {x k : Nat} {v : Int32} (e : s' = si s 84 119 v) (h : EQR s x k) : EQR s' x k := by subst e; exact h
theorem inwp_map {s s' : St} {c x : Nat} (e1 : ∀ k, gb s' 133 k = gb s 133 k) (e2 : ∀ k, gi s' 156 k = gi s 156 k) (e3 : (gi s 84 119).toInt ≤ (gi s' 84 119).toInt) (e4 : ∀ y k : Nat, (k : Int) < (gi s 84 119).toInt → EQR s y k → EQR s' y k) (h : INWP s c x) : INWP s' c x := by
  refine ⟨fun a i h1 h2 h3 h4 => ?_, fun y h1 h2 => ?_⟩
  · rw [e1] at h3; rw [e2] at h4
    obtain ⟨k, k1, k2⟩ := h.1 a i h1 h2 h3 h4
    exact ⟨k, by omega, e4 _ _ k1 k2⟩
  · obtain ⟨k, k1, k2⟩ := h.2 y h1 h2
    exact ⟨k, by omega, e4 _ _ k1 k2⟩
theorem inwp_5 {s s' : St} {c x n : Nat} {v : Int32} (e : s' = si s 135 n v) (h : INWP s c x) (hn : (gi s 84 119).toInt ≤ n) : INWP s' c x := inwp_map (fun k => by subst e; rfl) (fun k => by subst e; simp [gi, si, up2]) (by subst e; simp [gi, si, up2]) (fun y k hk q => eqr_w5 e (by omega) q) h
theorem inwp_6 {s s' : St} {c x n : Nat} {v : Int32} (e : s' = si s 136 n v) (h : INWP s c x) (hn : (gi s 84 119).toInt ≤ n) : INWP s' c x := inwp_map (fun k => by subst e; rfl) (fun k => by subst e; simp [gi, si, up2]) (by subst e; simp [gi, si, up2]) (fun y k hk q => eqr_w6 e (by omega) q) h
theorem inwp_7 {s s' : St} {c x n : Nat} {v : Int32} (e : s' = si s 137 n v) (h : INWP s c x) (hn : 4 * (gi s 84 119).toInt ≤ n) : INWP s' c x := inwp_map (fun k => by subst e; rfl) (fun k => by subst e; simp [gi, si, up2]) (by subst e; simp [gi, si, up2]) (fun y k hk q => eqr_w7 e (by omega) q) h
theorem inwp_add {s s' : St} {c x x' : Nat} {v : Int32} {K : Nat} (e : s' = si s 84 119 v) (h : INWP s c x) (hv : v.toInt = (gi s 84 119).toInt + 1) (hK : (K : Int) = (gi s 84 119).toInt) (hE : EQR s x K) (hx : x' = x + 1) : INWP s' c x' := by
  have w9 : gi s' 84 119 = v := by rw [e]; simp [gi, si, up2]
  have h1 : INWP s' c x := inwp_map (fun k => by subst e; rfl) (fun k => by subst e; simp [gi, si, up2]) (by rw [w9]; omega) (fun y k hk q => eqr_wk e q) h
  exact inwp_next h1 (k := K) (by rw [w9]; omega) (eqr_wk e hE) hx
theorem inw_none {s : St} (h : ∀ k : Nat, k < 26 → gb s 133 k = false) : INW s := fun a i h1 h2 _ => by
  rw [h a h1] at h2; cases h2
theorem allb_w {b : Bool} {s s' : St} {q : Nat} {i j : Int32} (e : s' = sb s q i.toNatClampNeg b) (h : ∀ k : Nat, (k : Int) < i.toInt → gb s q k = b) (hi : 0 ≤ i.toInt) (hj : j.toInt = i.toInt + 1) : ∀ k : Nat, (k : Int) < j.toInt → gb s' q k = b := fun k hk => by
  subst e
  have e9 : i.toNatClampNeg = i.toInt.toNat := rfl
  by_cases c : k = i.toNatClampNeg
  · subst c; simp [gb, sb, up2]
  · have := h k (by omega); simpa [gb, sb, up2, c] using this
/-- as WKS, for slots above one -/
def WKP (σ : St) (n : Int) : Prop := ∀ s i : Nat, n < s → s < 25 → gb σ 133 s = true → (i : Int) < (gi σ 156 s).toInt → 0 ≤ (gi σ 134 (24 * s + i)).toInt ∧ (gi σ 134 (24 * s + i)).toInt < 700
def WKQ (σ : St) (c x : Int) : Prop := ∀ y : Nat, 24 * c ≤ y → (y : Int) < x → 0 ≤ (gi σ 134 y).toInt ∧ (gi σ 134 y).toInt < 700
theorem wkp_24 {s : St} {n : Int} (h : 24 ≤ n) : WKP s n := fun a i h1 h2 _ _ => by omega
theorem wkp_need {s s' : St} {c : Nat} {n : Int} {b : Bool} (e : s' = sb s 133 c b) (h : WKP s n) (hc : (c : Int) ≤ n) : WKP s' n := fun a i h1 h2 h3 h4 => by
  subst e
  have : ¬ a = c := by omega
  exact h a i h1 h2 (by simpa [gb, sb, up2, this] using h3) h4
theorem wkp_w {s s' : St} {k : Nat} {n : Int} {v : Int32} (e : s' = si s 134 k v) (h : WKP s n) (hk : (k : Int) < 24 * n + 24) : WKP s' n := fun a i h1 h2 h3 h4 => by
  subst e
  have h4' : (i : Int) < (gi s 156 a).toInt := by simpa [gi, si, up2] using h4
  have : ¬ 24 * a + i = k := by omega
  have := h a i h1 h2 h3 h4'
  simpa [gi, si, up2, ‹¬ 24 * a + i = k›] using this
theorem wkq_0 {s : St} {c x : Int} (h : x ≤ 24 * c) : WKQ s c x := fun y h1 h2 => by omega
theorem wkq_w {s s' : St} {k : Nat} {c x x' : Int} {v : Int32} (e : s' = si s 134 k v) (h : WKQ s c x) (hk : (k : Int) = x) (hx : x' = x + 1) (hv : 0 ≤ v.toInt ∧ v.toInt < 700) : WKQ s' c x' := fun y h1 h2 => by
  subst e
  by_cases q : y = k
  · subst q; simpa [gi, si, up2] using hv
  · have := h y h1 (by omega)
    simpa [gi, si, up2, q] using this
theorem wkp_no {s : St} {a : Nat} {n m : Int} (h : WKP s n) (ha : (a : Int) = n) (hm : m = n - 1) (hb : gb s 133 a = false) : WKP s m := fun b i h1 h2 h3 h4 => by
  by_cases q : b = a
  · subst q; rw [hb] at h3; cases h3
  · exact h b i (by omega) h2 h3 h4
theorem wkp_yes {s : St} {a : Nat} {n m x : Int} (h : WKP s n) (g : WKQ s n x) (ha : (a : Int) = n) (hm : m = n - 1) (hx : 24 * n + (gi s 156 a).toInt ≤ x) : WKP s m := fun b i h1 h2 h3 h4 => by
  by_cases q : b = a
  · subst q; exact g (24 * b + i) (by omega) (by omega)
  · exact h b i (by omega) h2 h3 h4
theorem wks_of {s : St} {n : Int} (h : WKP s n) (hn : n < 0) : WKS s := fun a i h1 h2 h3 => h a i (by omega) h1 h2 h3
theorem inw_at {s : St} {a x : Nat} {v W : Int32} (h : INW s) (ha : a < 26) (hb : gb s 133 a = true) (h1 : 24 * a ≤ x) (h2 : (x : Int) < 24 * (a : Int) + (gi s 156 a).toInt) (hv : (v.toInt = -1 ∧ ∀ k : Nat, (k : Int) < W.toInt → ¬ EQR s x k) ∨ (0 ≤ v.toInt ∧ v.toInt < W.toInt ∧ EQR s x (v).toNatClampNeg)) (hW : gi s 84 119 = W) : 0 ≤ v.toInt ∧ v.toInt < (gi s 84 119).toInt := by
  subst hW
  rcases hv with ⟨-, hv⟩ | hv
  · obtain ⟨k, k1, k2⟩ := h a (x - 24 * a) ha hb (by omega)
    rw [show 24 * a + (x - 24 * a) = x by omega] at k2
    exact absurd k2 (hv k k1)
  · exact ⟨hv.1, hv.2.1⟩
theorem put_E {s0 s1 s2 : St} {n x : Nat} {v w : Int32} {i : Int32} (e1 : s1 = si s0 135 n v) (e2 : s2 = si s1 136 n w) (hv : gi s0 157 x = v) (hw : gi s1 158 x = w) (hi : i.toInt = 0 := by decide) : (gi s2 157 x = gi s2 135 n ∧ gi s2 158 x = gi s2 136 n) ∧ ∀ j : Nat, (j : Int) < i.toInt → gi s2 159 (4 * x + j) = gi s2 137 (4 * n + j) := by
  have hw' : gi s0 158 x = w := by rw [← hw, e1]; simp [gi, si, up2]
  subst e1
  subst e2
  refine ⟨⟨?_, ?_⟩, fun j hj => by omega⟩
  · simpa [gi, si, up2] using hv
  · simpa [gi, si, up2] using hw'
theorem put_F {s s' : St} {i j : Int32} {x n m : Nat} {v : Int32} (e : s' = si s 137 m v) (h : (gi s 157 x = gi s 135 n ∧ gi s 158 x = gi s 136 n) ∧ ∀ k : Nat, (k : Int) < i.toInt → gi s 159 (4 * x + k) = gi s 137 (4 * n + k)) (hm : m = 4 * n + i.toNatClampNeg) (hi : 0 ≤ i.toInt) (hj : j.toInt = i.toInt + 1) (hv : gi s 159 (4 * x + i.toNatClampNeg) = v) : (gi s' 157 x = gi s' 135 n ∧ gi s' 158 x = gi s' 136 n) ∧ ∀ k : Nat, (k : Int) < j.toInt → gi s' 159 (4 * x + k) = gi s' 137 (4 * n + k) := by
  have e9 : i.toNatClampNeg = i.toInt.toNat := rfl
  subst e
  refine ⟨by simpa [gi, si, up2] using h.1, fun k hk => ?_⟩
  by_cases q : k = i.toNatClampNeg
  · subst q
    subst hm
    simpa [gi, si, up2] using hv
  · have := h.2 k (by omega)
    have q2 : ¬ 4 * n + k = m := by omega
    simpa [gi, si, up2, q2] using this
theorem put_Q {σ : St} {x n : Nat} {i : Int32} (h : (gi σ 157 x = gi σ 135 n ∧ gi σ 158 x = gi σ 136 n) ∧ ∀ k : Nat, (k : Int) < i.toInt → gi σ 159 (4 * x + k) = gi σ 137 (4 * n + k)) (hi : 4 ≤ i.toInt) : EQR σ x n := ⟨h.1, fun v hv => h.2 v (by omega)⟩
theorem nok_name {σ : St} {s k : Nat} {v : Int32} (h : NOK σ) (hs : s < 25) (h1 : 250 * s ≤ k) (h2 : (k : Int) < 250 * (s : Int) + (gi σ 194 s).toInt) (hk : (gi σ 198 k).toInt = 20) (e : gi σ 197 k = v) : 0 ≤ v.toInt ∧ v.toInt < 24 ∧ v.toInt < s := by rw [← e]; exact (h s k hs h1 h2).1 hk
theorem nok_next {σ : St} {s k : Nat} {v : Int32} (h : NOK σ) (hs : s < 25) (h1 : 250 * s ≤ k) (h2 : (k : Int) < 250 * (s : Int) + (gi σ 194 s).toInt) (e : gi σ 195 k = v) : v.toInt = -1 ∨ ((k : Int) < v.toInt ∧ v.toInt < 250 * (s : Int) + (gi σ 194 s).toInt) := by rw [← e]; exact (h s k hs h1 h2).2.2.2.2.2
/-- how many of the first numbers have a property -/
def cnt (P : Nat → Bool) : Nat → Nat
  | 0 => 0
  | n + 1 => cnt P n + (if P n then 1 else 0)
theorem cnt_le (P : Nat → Bool) : ∀ n, cnt P n ≤ n
  | 0 => Nat.le_refl 0
  | n + 1 => by have := cnt_le P n; simp only [cnt]; split <;> omega
theorem cnt_congr {P Q : Nat → Bool} : ∀ n, (∀ k, k < n → P k = Q k) → cnt P n = cnt Q n
  | 0, _ => rfl
  | n + 1, h => by simp only [cnt]; rw [cnt_congr n (fun k hk => h k (by omega)), h n (by omega)]
theorem cnt_drop {P Q : Nat → Bool} {j : Nat} (hP : P j = true) (hQ : Q j = false) (h : ∀ k, ¬ k = j → Q k = P k) : ∀ n, j < n → cnt Q n + 1 = cnt P n
  | 0, hj => absurd hj (Nat.not_lt_zero j)
  | n + 1, hj => by
    simp only [cnt]
    by_cases c : j = n
    · subst c
      rw [cnt_congr (P := Q) (Q := P) j (fun k hk => h k (by omega)), hP, hQ]
      simp
    · rw [← cnt_drop hP hQ h n (by omega), h n (by omega)]
      omega
def b2n (b : Bool) : Nat := if b then 1 else 0
theorem b2n_t : b2n true = 1 := rfl
theorem b2n_f : b2n false = 0 := rfl
theorem b2n_le (b : Bool) : b2n b ≤ 1 := by cases b <;> decide
theorem b2n_of {b : Bool} (h : b = true) : b2n b = 1 := by rw [h]; rfl
/-- how many places have no height yet -/
def FN (σ : St) (n : Nat) : Nat := cnt (fun k => gi σ 119 k == -1) n
theorem fn_le (σ : St) (n : Nat) : FN σ n ≤ n := cnt_le _ n
theorem fn_w {s s' : St} {p n : Nat} {v : Int32} (e : s' = si s 119 p v) (hp : p < n) (h1 : (gi s 119 p).toInt = -1) (h2 : ¬ v.toInt = -1) : FN s' n + 1 = FN s n := by
  subst e
  refine cnt_drop (j := p) ?_ ?_ (fun k hk => ?_) n hp
  · rw [beq_iff_eq, ← Int32.toInt_inj]; exact h1
  · have : gi (si s 119 p v) 119 p = v := by simp [gi, si, up2]
    rw [this, beq_eq_false_iff_ne]
    intro q; rw [q] at h2; exact h2 (by decide)
  · have : gi (si s 119 p v) 119 k = gi s 119 k := by simp [gi, si, up2, hk]
    rw [this]
/-- heights of places: 0 where it takes, or one more than that of one behind it -/
def FARP (σ : St) : Prop := ∀ p : Nat, (p : Int) < (gi σ 84 129).toInt → (gi σ 119 p).toInt = -1 ∨ ((gi σ 119 p).toInt = 0 ∧ ¬ gi σ 124 p = 0) ∨ (0 < (gi σ 119 p).toInt ∧ ∃ l : Nat, (l : Int) < (gi σ 84 131).toInt ∧ (gi σ 119 (gi σ 128 (16 * p + l)).toNatClampNeg).toInt = (gi σ 119 p).toInt - 1)
theorem FARP_of {s s' : St} (e1 : ∀ k, gi s' 119 k = gi s 119 k) (e2 : ∀ k, gi s' 124 k = gi s 124 k) (e3 : ∀ k, gi s' 128 k = gi s 128 k) (e4 : gi s' 84 129 = gi s 84 129) (e5 : gi s' 84 131 = gi s 84 131) (h : FARP s) : FARP s' := fun p hp => by
  rw [e4] at hp
  have := h p hp
  simp only [e1, e2, e3, e5]
  exact this
theorem farp_0 {s : St} {n : Int} (h : ∀ k : Nat, (k : Int) < n → (gi s 119 k).toInt = -1 ∨ ((gi s 119 k).toInt = 0 ∧ ¬ gi s 124 k = 0)) (hn : (gi s 84 129).toInt ≤ n) : FARP s := fun p hp => by
  rcases h p (by omega) with h | h
  · exact Or.inl h
  · exact Or.inr (Or.inl h)
theorem farp_w {s s' : St} {p l : Nat} {v w : Int32} {d : Int} (e : s' = si s 119 p v) (h : FARP s) (h1 : (gi s 119 p).toInt = -1) (hl : (l : Int) < (gi s 84 131).toInt) (hb : gi s 128 (16 * p + l) = w) (hw : (gi s 119 w.toNatClampNeg).toInt = d) (hd : 0 ≤ d) (hv : v.toInt = d + 1) : FARP s' := fun a ha => by
  have f1 : ∀ k, ¬ k = p → gi s' 119 k = gi s 119 k := fun k hk => by rw [e]; simp [gi, si, up2, hk]
  have f2 : gi s' 119 p = v := by rw [e]; simp [gi, si, up2]
  have f3 : ∀ k, gi s' 128 k = gi s 128 k := fun k => by rw [e]; simp [gi, si, up2]
  have f4 : ∀ k, gi s' 124 k = gi s 124 k := fun k => by rw [e]; simp [gi, si, up2]
  have f5 : gi s' 84 129 = gi s 84 129 := by rw [e]; simp [gi, si, up2]
  have f6 : gi s' 84 131 = gi s 84 131 := by rw [e]; simp [gi, si, up2]
  rw [f5] at ha
  have np : ∀ k, 0 ≤ (gi s 119 k).toInt → ¬ k = p := fun k hk q => by rw [q, h1] at hk; omega
  by_cases c : a = p
  · subst c
    refine Or.inr (Or.inr ⟨by rw [f2]; omega, l, by rw [f6]; exact hl, ?_⟩)
    rw [f3, hb, f1 _ (np _ (by omega)), hw, f2]
    omega
  · rw [f1 a c, f4, f6]
    rcases h a ha with q | q | ⟨q, l', q1, q2⟩
    · exact Or.inl q
    · exact Or.inr (Or.inl q)
    · refine Or.inr (Or.inr ⟨q, l', q1, ?_⟩)
      rw [f3, f1 _ (np _ (by omega))]
      exact q2
theorem farp_at {s : St} {p : Nat} (h : FARP s) (hp : (p : Int) < (gi s 84 129).toInt) (h0 : 0 < (gi s 119 p).toInt) : ∃ l : Nat, (l : Int) < (gi s 84 131).toInt ∧ (gi s 119 (gi s 128 (16 * p + l)).toNatClampNeg).toInt = (gi s 119 p).toInt - 1 := by
  rcases h p hp with q | q | q
  · omega
  · omega
  · exact q.2
theorem farI_w {s s' : St} {i j : Int32} {v : Int32} (e : s' = si s 119 i.toNatClampNeg v) (hv : v.toInt = -1 ∨ (v.toInt = 0 ∧ ¬ gi s 124 i.toNatClampNeg = 0)) (h : ∀ k : Nat, (k : Int) < i.toInt → (gi s 119 k).toInt = -1 ∨ ((gi s 119 k).toInt = 0 ∧ ¬ gi s 124 k = 0)) (hi : 0 ≤ i.toInt) (hj : j.toInt = i.toInt + 1) : ∀ k : Nat, (k : Int) < j.toInt → (gi s' 119 k).toInt = -1 ∨ ((gi s' 119 k).toInt = 0 ∧ ¬ gi s' 124 k = 0) := fun k hk => by
  subst e
  have e9 : i.toNatClampNeg = i.toInt.toNat := rfl
  by_cases c : k = i.toNatClampNeg
  · subst c; simpa [gi, si, up2] using hv
  · have := h k (by omega); simpa [gi, si, up2, c] using this
def BEH (σ : St) : Prop := ∀ p l : Nat, (p : Int) < (gi σ 84 129).toInt → (l : Int) < (gi σ 84 131).toInt → 0 ≤ (gi σ 128 (16 * p + l)).toInt ∧ (gi σ 128 (16 * p + l)).toInt < (gi σ 84 129).toInt
theorem BEH_of {s s' : St} (e3 : ∀ k, gi s' 128 k = gi s 128 k) (e4 : gi s' 84 129 = gi s 84 129) (e5 : gi s' 84 131 = gi s 84 131) (h : BEH s) : BEH s' := fun p l hp hl => by
  rw [e4] at hp; rw [e5] at hl; rw [e3, e4]; exact h p l hp hl
/-- how many places' greatest values may still grow -/
def MN (σ : St) (n : Nat) : Nat := cnt (fun k => !(gl σ 116 k == 9223372036854775807)) n
theorem mn_le (σ : St) (n : Nat) : MN σ n ≤ n := cnt_le _ n
theorem mn_w {s s' : St} {p n : Nat} {v : Int64} (e : s' = sl s 116 p v) (hp : p < n) (h1 : (gl s 116 p).toInt < 9223372036854775807) : MN s' n ≤ MN s n ∧ (v = 9223372036854775807 → MN s' n + 1 = MN s n) := by
  subst e
  have o : (fun k => !(gl s 116 k == 9223372036854775807)) p = true := by
    show (!(gl s 116 p == 9223372036854775807)) = true
    rw [Bool.not_eq_true', beq_eq_false_iff_ne]
    intro q; rw [q] at h1; exact absurd h1 (by decide)
  have w : gl (sl s 116 p v) 116 p = v := by simp [gl, sl, up2]
  have ne : ∀ k, ¬ k = p → (fun k => !(gl (sl s 116 p v) 116 k == 9223372036854775807)) k = (fun k => !(gl s 116 k == 9223372036854775807)) k := fun k hk => by
    have : gl (sl s 116 p v) 116 k = gl s 116 k := by simp [gl, sl, up2, hk]
    show (!(gl (sl s 116 p v) 116 k == 9223372036854775807)) = (!(gl s 116 k == 9223372036854775807))
    rw [this]
  by_cases c : v = 9223372036854775807
  · have := cnt_drop (P := fun k => !(gl s 116 k == 9223372036854775807)) (Q := fun k => !(gl (sl s 116 p v) 116 k == 9223372036854775807)) (j := p) o (by show (!(gl (sl s 116 p v) 116 p == 9223372036854775807)) = false; rw [w, c]; rfl) ne n hp
    unfold MN
    exact ⟨by omega, fun _ => this⟩
  · refine ⟨?_, fun q => absurd q c⟩
    unfold MN
    refine Nat.le_of_eq (cnt_congr n (fun k _ => ?_))
    by_cases q : k = p
    · subst q
      have o' : (!(gl s 116 k == 9223372036854775807)) = true := o
      show (!(gl (sl s 116 k v) 116 k == 9223372036854775807)) = (!(gl s 116 k == 9223372036854775807))
      rw [o', w, Bool.not_eq_true', beq_eq_false_iff_ne]; exact c
    · exact ne k q
/-- how many places do not count -/
def CN (σ : St) (n : Nat) : Nat := cnt (fun k => !gb σ 113 k) n
theorem cn_le (σ : St) (n : Nat) : CN σ n ≤ n := cnt_le _ n
theorem cn_w {s s' : St} {p n : Nat} (e : s' = sb s 113 p true) (hp : p < n) (h1 : gb s 113 p = false) : CN s' n + 1 = CN s n := by
  subst e
  refine cnt_drop (j := p) ?_ ?_ (fun k hk => ?_) n hp
  · show (!gb s 113 p) = true; rw [h1]; rfl
  · show (!gb (sb s 113 p true) 113 p) = false; simp [gb, sb, up2]
  · show (!gb (sb s 113 p true) 113 k) = (!gb s 113 k); simp [gb, sb, up2, hk]
def HDP (σ : St) (n : Int) : Prop := ∀ k : Nat, k < 32768 → -1 ≤ (gi σ 127 k).toInt ∧ (gi σ 127 k).toInt < n
theorem hdp_0 {s : St} {n : Int} (h : ∀ k : Nat, (k : Int) < n → (gi s 127 k).toInt = -1) (hn : 32768 ≤ n) : HDP s 0 := fun k hk => by
  have := h k (by omega); omega
theorem hdp_0' {s : St} {n : Int} {i : Int32} (hi : i.toInt = 0) (h : ∀ k : Nat, (k : Int) < n → (gi s 127 k).toInt = -1) (hn : 32768 ≤ n) : HDP s i.toInt := by rw [hi]; exact hdp_0 h hn
theorem hdp_at {s : St} {n : Int} (h : HDP s n) {k : Nat} {v : Int32} (e : gi s 127 k = v) (hk : k < 32768) : -1 ≤ v.toInt ∧ v.toInt < n := by rw [← e]; exact h k hk
theorem hdp_w {s s' : St} {h9 : Nat} {v : Int32} {n m : Int} (e : s' = si s 127 h9 v) (h : HDP s n) (h0 : -1 ≤ v.toInt) (hv : v.toInt < m) (hm : n ≤ m) : HDP s' m := fun k hk => by
  subst e
  by_cases q : k = h9
  · subst q
    have : gi (si s 127 k v) 127 k = v := by simp [gi, si, up2]
    rw [this]; omega
  · have w : gi (si s 127 h9 v) 127 k = gi s 127 k := by simp [gi, si, up2, q]
    have := h k hk
    rw [w]; omega
theorem hdp_ne {s s' : St} {q k : Nat} {v : Int32} {n m : Int} (e : s' = si s q k v) (hq : ¬ q = 127) (h : HDP s n) (hm : n ≤ m) : HDP s' m := fun j hj => by
  subst e
  have w : gi (si s q k v) 127 j = gi s 127 j := by simp only [gi, si, up2]; rw [if_neg (fun z => hq z.1.symm)]
  have := h j hj
  rw [w]; omega
theorem cha_w {s s' : St} {p : Nat} {v : Int32} (e : s' = si s 126 p v) (h : CHA s) (h0 : -1 ≤ v.toInt) (hv : v.toInt < p) : CHA s' := fun k hk => by
  subst e
  have hk' : (k : Int) < (gi s 84 129).toInt := by simpa [gi, si, up2] using hk
  by_cases q : k = p
  · subst q
    have : gi (si s 126 k v) 126 k = v := by simp [gi, si, up2]
    rw [this]; exact ⟨h0, hv⟩
  · have w : gi (si s 126 p v) 126 k = gi s 126 k := by simp [gi, si, up2, q]
    rw [w]; exact h k hk'
/-- how many sorts have no state yet -/
def SN (σ : St) : Nat := cnt (fun k => gi σ 108 k == -1) 3000
theorem sn_w {s s' : St} {p : Nat} {v : Int32} (e : s' = si s 108 p v) (hp : p < 3000) (h1 : (gi s 108 p).toInt = -1) (h2 : ¬ v.toInt = -1) : SN s' + 1 = SN s := by
  subst e
  refine cnt_drop (j := p) ?_ ?_ (fun k hk => ?_) 3000 hp
  · rw [beq_iff_eq, ← Int32.toInt_inj]; exact h1
  · have : gi (si s 108 p v) 108 p = v := by simp [gi, si, up2]
    rw [this, beq_eq_false_iff_ne]
    intro q; rw [q] at h2; exact h2 (by decide)
  · have : gi (si s 108 p v) 108 k = gi s 108 k := by simp [gi, si, up2, hk]
    rw [this]
theorem sn_ne {s s' : St} {q k : Nat} {v : Int32} (e : s' = si s q k v) (hq : ¬ q = 108) : SN s' = SN s := by
  subst e
  refine cnt_congr 3000 (fun j _ => ?_)
  have w : gi (si s q k v) 108 j = gi s 108 j := by simp only [gi, si, up2]; rw [if_neg (fun z => hq z.1.symm)]
  rw [w]
theorem cnt_lt {P : Nat → Bool} {j : Nat} (h : P j = false) : ∀ n, j < n → cnt P n + 1 ≤ n
  | 0, hj => absurd hj (Nat.not_lt_zero j)
  | n + 1, hj => by
    simp only [cnt]
    by_cases c : j = n
    · subst c; rw [h]; have := cnt_le P j; simp; omega
    · have := cnt_lt h n (by omega); split <;> omega
theorem sn_lt {s s' : St} {p : Nat} {v : Int32} (e : s' = si s 108 p v) (hp : p < 3000) (h2 : ¬ v.toInt = -1) : SN s' + 1 ≤ 3000 := by
  subst e
  refine cnt_lt (j := p) ?_ 3000 hp
  have : gi (si s 108 p v) 108 p = v := by simp [gi, si, up2]
  show (gi (si s 108 p v) 108 p == -1) = false
  rw [this, beq_eq_false_iff_ne]
  intro q; rw [q] at h2; exact h2 (by decide)
theorem i_bit {x : Int32} (h : ¬ x = 0) : ∃ s : Nat, s < 32 ∧ ¬ (x >>> (Int32.ofNat s &&& 31)) &&& 1 = 0 := by
  have h1 : ∃ i, i < 32 ∧ x.toBitVec.getLsbD i = true := by
    apply Classical.byContradiction
    intro q
    apply h
    apply Int32.toBitVec_inj.mp
    apply BitVec.eq_of_getLsbD_eq
    intro i hi
    show x.toBitVec.getLsbD i = (0#32).getLsbD i
    rw [BitVec.getLsbD_zero]
    cases c : x.toBitVec.getLsbD i
    · rfl
    · exact absurd ⟨i, hi, c⟩ q
  obtain ⟨i, hi, hb⟩ := h1
  refine ⟨i, hi, fun e => ?_⟩
  have e1 := congrArg (fun z : Int32 => z.toBitVec.getLsbD 0) e
  have e2 : ∀ j : Fin 32, ((Int32.ofNat j.1 &&& 31).toBitVec.smod 32).toNat = j.1 := by decide
  have e3 := e2 ⟨i, hi⟩
  have e4 : ((x >>> (Int32.ofNat i &&& 31)) &&& 1).toBitVec.getLsbD 0 = (x.toBitVec.sshiftRight' ((Int32.ofNat i &&& 31).toBitVec.smod 32)).getLsbD 0 := by
    show ((x.toBitVec.sshiftRight' _) &&& 1#32).getLsbD 0 = _
    rw [BitVec.getLsbD_and]
    simp
  have e5 : ((x >>> (Int32.ofNat i &&& 31)) &&& 1).toBitVec.getLsbD 0 = (0 : Int32).toBitVec.getLsbD 0 := e1
  rw [e4, BitVec.getLsbD_sshiftRight', e3] at e5
  simp [hi] at e5
  rw [BitVec.getLsbD_eq_getElem hi, e5] at hb
  cases hb
theorem bit_next {x s v1 v2 : Int32} {s0 : Nat} (h : ¬ (x >>> (Int32.ofNat s0 &&& 31)) &&& 1 = 0) (h1 : x >>> (s &&& 31) = v1) (h2 : v1 &&& 1 = v2) (h3 : v2 = 0) (hs0 : s0 < 32) : ¬ s.toInt = s0 := fun e => by
  have : s = Int32.ofNat s0 := by
    apply Int32.toInt_inj.mp
    rw [e, Int32.toInt_ofNat_of_lt (by omega)]
  rw [this] at h1
  rw [h1, h2, h3] at h
  exact h rfl
theorem farp_atf {s σ : St} {f : Nat → Int32} {p : Nat} (h : FARP s) (hf : ∀ k, gi s 119 k = f k) (hb : ∀ k, gi s 128 k = gi σ 128 k) (hp : (p : Int) < (gi s 84 129).toInt) (h0 : 0 < (f p).toInt) (hl : (gi s 84 131).toInt ≤ 16) : ∃ l : Nat, (l : Int) < 16 ∧ (l : Int) < (gi s 84 131).toInt ∧ (f (gi σ 128 (16 * p + l)).toNatClampNeg).toInt = (f p).toInt - 1 := by
  obtain ⟨l, l1, l2⟩ := farp_at h hp (by rw [hf]; exact h0)
  refine ⟨l, by omega, l1, ?_⟩
  rw [hb, hf, hf] at l2
  exact l2
theorem farp_tk {s : St} {f : Nat → Int32} {p : Nat} (h : FARP s) (hf : ∀ k, gi s 119 k = f k) (hp : (p : Int) < (gi s 84 129).toInt) (h0 : (f p).toInt = 0) : ¬ gi s 124 p = 0 := by
  rcases h p hp with q | q | q
  · rw [hf] at q; omega
  · exact q.2
  · rw [hf] at q; omega
theorem tl_ne {f g : Nat → Int32} {p l0 L : Nat} {w v1 v2 : Int32} (h : (f (g (16 * p + l0)).toNatClampNeg).toInt = (f p).toInt - 1) (hb : g (16 * p + L) = w) (h1 : f w.toNatClampNeg = v1) (h2 : v2.toInt = (f p).toInt - 1) (hne : ¬ v1 = v2) : ¬ L = l0 := fun e => by
  subst e
  rw [hb, h1] at h
  exact hne (Int32.toInt_inj.mp (by omega))
/-- as BEH, up to a place and a letter -/
def BEHP (σ : St) (p l : Int) : Prop := ∀ a b : Nat, ((a : Int) < p ∧ (b : Int) < (gi σ 84 131).toInt) ∨ ((a : Int) = p ∧ (b : Int) < l) → (b : Int) < 16 → 0 ≤ (gi σ 128 (16 * a + b)).toInt ∧ (gi σ 128 (16 * a + b)).toInt < (gi σ 84 129).toInt
theorem behp_0 {s : St} {p : Int} (hp : p ≤ 0) : BEHP s p 0 := fun a b h _ => by omega
theorem behp_l {s : St} {p l : Int} (h : BEHP s p 0) (hl : l = 0) : BEHP s p l := by rw [hl]; exact h
theorem behp_p {s : St} {p p' l : Int} (h : BEHP s p l) (hl : (gi s 84 131).toInt ≤ l) (hp : p' = p + 1) : BEHP s p' 0 := fun a b q h16 => h a b (by omega) h16
theorem behp_end {s : St} {p l : Int} (h : BEHP s p l) (hp : (gi s 84 129).toInt ≤ p) (h16 : (gi s 84 131).toInt ≤ 16 := by assumption) : BEH s := fun a b h1 h2 => h a b (by omega) (by omega)
theorem behp_ne {s s' : St} {q k : Nat} {v : Int32} {p l : Int} (e : s' = si s q k v) (hq : ¬ (q = 128 ∨ q = 84)) (h : BEHP s p l) : BEHP s' p l := by
  subst e
  intro a b c h16
  have w1 : ∀ j, gi (si s q k v) 128 j = gi s 128 j := fun j => by simp only [gi, si, up2]; rw [if_neg (fun z => hq (Or.inl z.1.symm))]
  have w2 : ∀ j, gi (si s q k v) 84 j = gi s 84 j := fun j => by simp only [gi, si, up2]; rw [if_neg (fun z => hq (Or.inr z.1.symm))]
  rw [w2] at c
  rw [w1, w2]
  exact h a b c h16
theorem behp_w {s s' : St} {n : Nat} {v : Int32} {p l m : Int} (e : s' = si s 128 n v) (h : BEHP s p l) (hn : (n : Int) = 16 * p + l) (hl : 0 ≤ l ∧ l < 16) (hv : 0 ≤ v.toInt ∧ v.toInt < (gi s 84 129).toInt) (hm : m = l + 1) : BEHP s' p m := fun a b c h16 => by
  subst e
  have w2 : gi (si s 128 n v) 84 129 = gi s 84 129 := by simp [gi, si, up2]
  have w3 : gi (si s 128 n v) 84 131 = gi s 84 131 := by simp [gi, si, up2]
  rw [w3] at c
  rw [w2]
  by_cases q : 16 * a + b = n
  · rw [q]
    have : gi (si s 128 n v) 128 n = v := by simp [gi, si, up2]
    rw [this]; exact hv
  · have w1 : gi (si s 128 n v) 128 (16 * a + b) = gi s 128 (16 * a + b) := by simp [gi, si, up2, q]
    rw [w1]
    exact h a b (by omega) h16
theorem behp_map {s s' : St} {p l : Int} (e1 : ∀ k, gi s' 128 k = gi s 128 k) (e2 : gi s' 84 131 = gi s 84 131) (e3 : (gi s 84 129).toInt ≤ (gi s' 84 129).toInt) (h : BEHP s p l) : BEHP s' p l := fun a b c h16 => by
  rw [e2] at c
  rw [e1]
  have := h a b c h16
  omega
theorem mul_bd {b n : Int} {m : Int} (h0 : 0 ≤ b) (h1 : b ≤ m) (hn : 0 ≤ n) : 0 ≤ b * n ∧ b * n ≤ m * n := ⟨Int.mul_nonneg h0 hn, Int.mul_le_mul_of_nonneg_right h1 hn⟩
theorem mul_bd2 {a b m n : Int} (h0 : 0 ≤ a) (h1 : a ≤ m) (g0 : 0 ≤ b) (g1 : b ≤ n) : 0 ≤ a * b ∧ a * b ≤ m * n := ⟨Int.mul_nonneg h0 g0, Int.mul_le_mul h1 g1 g0 (Int.le_trans h0 h1)⟩
theorem i_l2iU {x : Int64} {v : Int32} (h : x.toInt32 = v) : -2147483648 ≤ x.toInt → x.toInt < 2147483648 → v.toInt = x.toInt := by
  subst h; intro h1 h2
  rw [Int64.toInt_toInt32]
  exact Int.bmod_eq_of_le (by omega) (by omega)
theorem l_divU {x y v : Int64} (h : x / y = v) : 0 < y.toInt → 0 ≤ x.toInt → v.toInt = x.toInt / y.toInt := by
  intro hy hx
  subst h
  rw [l_remU_dn hy, Int.tdiv_eq_ediv_of_nonneg hx]
theorem no_end {P : Nat → Prop} {i : Int32} {n : Int} (h : ∀ k : Nat, (k : Int) < i.toInt → ¬ P k) (hi : n ≤ i.toInt) : ∀ k : Nat, (k : Int) < n → ¬ P k := fun k hk => h k (by omega)
theorem cli_lt {σ : St} {s l c i ix : Nat} {v : Int32} (h : CLI σ) (e : gi σ 155 ix = v) (h1 : s < 25) (h2 : 61 * s ≤ l) (h3 : (l : Int) < 61 * (s : Int) + (gi σ 183 s).toInt) (h4 : (gi σ 185 l).toInt ≤ c) (h5 : (c : Int) < (gi σ 185 l).toInt + (gi σ 184 l).toInt) (h6 : i < 8) (hix : ix = 8 * c + i) : v.toInt < 2 * (gi σ 156 s).toInt := by rw [← e, hix]; exact h s l c i h1 h2 h3 h4 h5 h6
theorem inwp_found {s : St} {c x x' : Nat} {v W : Int32} (h : INWP s c x) (hv : (v.toInt = -1 ∧ ∀ k : Nat, (k : Int) < W.toInt → ¬ EQR s x k) ∨ (0 ≤ v.toInt ∧ v.toInt < W.toInt ∧ EQR s x (v).toNatClampNeg)) (hW : gi s 84 119 = W) (hne : ¬ v.toInt = -1) (hx : x' = x + 1) : INWP s c x' := by
  subst hW
  rcases hv with ⟨q, -⟩ | ⟨q0, q1, q2⟩
  · exact absurd q hne
  · exact inwp_next h (k := (v).toNatClampNeg) (by show ((v.toInt.toNat : Nat) : Int) < _; omega) q2 hx
/-- what an instruction gives, where its guards are shown at once -/
theorem i_addK {P : Prop} {x y v : Int32} (h : x + y = v) (g1 : -2147483648 ≤ x.toInt + y.toInt) (g2 : x.toInt + y.toInt < 2147483648) (k : v.toInt = x.toInt + y.toInt → P) : P := k (i_addT h g1 g2)
theorem i_subK {P : Prop} {x y v : Int32} (h : x - y = v) (g1 : -2147483648 ≤ x.toInt - y.toInt) (g2 : x.toInt - y.toInt < 2147483648) (k : v.toInt = x.toInt - y.toInt → P) : P := k (i_subT h g1 g2)
theorem i_mulK {P : Prop} {x y v : Int32} (h : x * y = v) (g1 : -2147483648 ≤ x.toInt * y.toInt) (g2 : x.toInt * y.toInt < 2147483648) (k : v.toInt = x.toInt * y.toInt → P) : P := k (i_mulT h g1 g2)
theorem i_negK {P : Prop} {x v : Int32} (h : -x = v) (g1 : -2147483648 < x.toInt) (k : v.toInt = -x.toInt → P) : P := k (i_negT h g1)
theorem i_remK {P : Prop} {x y v : Int32} (h : x - x / y * y = v) (g1 : 0 < y.toInt) (g2 : 0 ≤ x.toInt) (k : v.toInt = x.toInt % y.toInt ∧ 0 ≤ v.toInt ∧ v.toInt < y.toInt ∧ v.toInt ≤ x.toInt → P) : P := k (by
  have a := i_remU h g1
  have b := a.2.2.2.1 g2
  refine ⟨b.2, b.1, a.2.2.1, ?_⟩
  rw [b.2]
  have := Int.emod_add_ediv_mul x.toInt y.toInt
  have c : 0 ≤ x.toInt / y.toInt * y.toInt := Int.mul_nonneg (Int.ediv_nonneg g2 (by omega)) (by omega)
  omega)
theorem i_remK2 {P : Prop} {x y v : Int32} (h : x - x / y * y = v) (g1 : 0 < y.toInt) (k : -y.toInt < v.toInt ∧ v.toInt < y.toInt → P) : P := k (by
  have a := i_remU h g1
  exact ⟨a.2.1, a.2.2.1⟩)
theorem i_divK {P : Prop} {x y v : Int32} (h : x / y = v) (g1 : 0 < y.toInt) (g2 : 0 ≤ x.toInt) (k : v.toInt = x.toInt / y.toInt ∧ 0 ≤ v.toInt ∧ v.toInt ≤ x.toInt → P) : P := k (by
  have a := (i_divU h g1).2.1 g2
  refine ⟨a, by rw [a]; exact Int.ediv_nonneg g2 (by omega), by rw [a]; exact Int.ediv_le_self _ g2⟩)
theorem l_addK {P : Prop} {x y v : Int64} (h : x + y = v) (g1 : -9223372036854775808 ≤ x.toInt + y.toInt) (g2 : x.toInt + y.toInt < 9223372036854775808) (k : v.toInt = x.toInt + y.toInt → P) : P := k (a_l_remU h g1 g2)
theorem l_subK {P : Prop} {x y v : Int64} (h : x - y = v) (g1 : -9223372036854775808 ≤ x.toInt - y.toInt) (g2 : x.toInt - y.toInt < 9223372036854775808) (k : v.toInt = x.toInt - y.toInt → P) : P := k (s_l_remU h g1 g2)
theorem l_mulK {P : Prop} {x y v : Int64} (h : x * y = v) (g1 : -9223372036854775808 ≤ x.toInt * y.toInt) (g2 : x.toInt * y.toInt < 9223372036854775808) (k : v.toInt = x.toInt * y.toInt → P) : P := k (m_l_remU h g1 g2)
abbrev ap_85 : Nat → Int → Prop := fun k x => 0 ≤ x ∧ x ≤ 9999
abbrev ap_109 : Nat → Int → Prop := fun k x => 0 ≤ x ∧ x ≤ 2999
abbrev ap_110 : Nat → Int → Prop := fun k x => 0 ≤ x ∧ x ≤ 2999
abbrev ap_111 : Nat → Int → Prop := fun k x => 0 ≤ x ∧ x ≤ 23
abbrev ap_112 : Nat → Int → Prop := fun k x => 0 ≤ x ∧ x ≤ 2999
abbrev ap_128 : Nat → Int → Prop := fun k x => 0 ≤ x ∧ x ≤ 2999
abbrev ap_134 : Nat → Int → Prop := fun k x => -1 ≤ x ∧ x ≤ 700
abbrev ap_135 : Nat → Int → Prop := fun k x => 0 ≤ x ∧ x ≤ 12
abbrev ap_136 : Nat → Int → Prop := fun k x => -99999 ≤ x ∧ x ≤ 99999
abbrev ap_137 : Nat → Int → Prop := fun k x => -20 ≤ x ∧ x ≤ 20
abbrev ap_143 : Nat → Int → Prop := fun k x => 0 ≤ x ∧ x ≤ 24
abbrev ap_144 : Nat → Int → Prop := fun k x => 0 ≤ x ∧ x ≤ 4
abbrev ap_155 : Nat → Int → Prop := fun k x => -2 ≤ x ∧ x ≤ 47
abbrev ap_156 : Nat → Int → Prop := fun k x => 0 ≤ x ∧ x ≤ 24
abbrev ap_157 : Nat → Int → Prop := fun k x => 0 ≤ x ∧ x ≤ 12
abbrev ap_158 : Nat → Int → Prop := fun k x => -99999 ≤ x ∧ x ≤ 99999
abbrev ap_159 : Nat → Int → Prop := fun k x => -20 ≤ x ∧ x ≤ 20
abbrev ap_173 : Nat → Int → Prop := fun k x => 0 ≤ x ∧ x ≤ 6499
abbrev ap_174 : Nat → Int → Prop := fun k x => 0 ≤ x ∧ x ≤ 130
abbrev ap_179 : Nat → Int → Prop := fun k x => 0 ≤ x ∧ x ≤ 260
abbrev ap_183 : Nat → Int → Prop := fun k x => 0 ≤ x ∧ x ≤ 61
abbrev ap_184 : Nat → Int → Prop := fun k x => 0 ≤ x ∧ x ≤ 64
abbrev ap_185 : Nat → Int → Prop := fun k x => 0 ≤ x ∧ x ≤ 1600
abbrev ap_186 : Nat → Int → Prop := fun k x => 0 ≤ x ∧ x ≤ 260
abbrev ap_187 : Nat → Int → Prop := fun k x => 0 ≤ x ∧ x ≤ 260
abbrev ap_194 : Nat → Int → Prop := fun k x => 0 ≤ x ∧ x ≤ 250
abbrev ap_199 : Nat → Int → Prop := fun k x => 0 ≤ x ∧ x ≤ 120
abbrev ap_200 : Nat → Int → Prop := fun k x => 0 ≤ x ∧ x ≤ 8
abbrev ap_202 : Nat → Int → Prop := fun k x => 0 ≤ x ∧ x ≤ 8
