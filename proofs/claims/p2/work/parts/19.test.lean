-- trial of tactics over numbers
theorem i_add {a b : Int32} (h1 : -2147483648 ≤ a.toInt + b.toInt) (h2 : a.toInt + b.toInt < 2147483648) : (a + b).toInt = a.toInt + b.toInt := by
  rw [Int32.toInt_add]; exact Int.bmod_eq_of_le (by omega) (by omega)
theorem i_sub {a b : Int32} (h1 : -2147483648 ≤ a.toInt - b.toInt) (h2 : a.toInt - b.toInt < 2147483648) : (a - b).toInt = a.toInt - b.toInt := by
  rw [Int32.toInt_sub]; exact Int.bmod_eq_of_le (by omega) (by omega)
theorem i_mul {a b : Int32} (h1 : -2147483648 ≤ a.toInt * b.toInt) (h2 : a.toInt * b.toInt < 2147483648) : (a * b).toInt = a.toInt * b.toInt := by
  rw [Int32.toInt_mul]; exact Int.bmod_eq_of_le (by omega) (by omega)
theorem q1 (a b : Int32) (h1 : ¬ a < 1) (h2 : ¬ 100 < a) (h3 : ¬ b < 0) (h4 : ¬ 256 ≤ b) : vp_in ((a - 1) * 256 + b) 25600 := by
  rw [vp_in_iff]; grind
theorem q2 (a b : Int32) (h1 : ¬ a < 1) (h2 : ¬ 100 < a) (h3 : ¬ b < 0) (h4 : ¬ 256 ≤ b) : vp_in ((a - 1) * 256 + b) 25600 := by
  simp only [vp_in_iff, Int32.lt_iff_toInt_lt, Int32.le_iff_toInt_le, Int32.reduceToInt] at *
  simp (disch := omega) only [i_add, i_sub, i_mul, Int32.reduceToInt]
  omega
theorem q3 (a b y : Int32) (h1 : ¬ a < 1) (h2 : ¬ 100 < a) (h3 : ¬ b < 0) (h4 : ¬ 256 ≤ b) (hy : y = (a - 1) * 256 + b) : 0 ≤ y.toInt ∧ y.toInt < 25600 := by
  grind
theorem q4 (a b : Int32) (h1 : ¬ a < 1) (h2 : ¬ 100 < a) : (a - 1).toInt = a.toInt - 1 := by
  grind
theorem q5 (a b : Int32) (h : a < b) : (a + 1).toInt = a.toInt + 1 := by grind
theorem q6 (a b : Int32) (h : a < b) : (b - (a + 1)).toInt.toNat < (b - a).toInt.toNat ∨ True := by grind
theorem q7 (a b : Int32) (h : 0 ≤ a) (h : a < b) : b.toInt.toNat - (a + 1).toInt.toNat < b.toInt.toNat - a.toInt.toNat := by grind
theorem q8 (a b : Int32) (h0 : 0 ≤ a) (h : a < b) (h2 : b ≤ 2000) : vp_in a 2000 := by rw [vp_in_iff]; grind
theorem q9 (a : Int64) (b : Int64) (h : a < b) (h2 : 0 ≤ a) : a.toInt + 1 ≤ b.toInt := by grind
theorem q10 (σ : St) (v : Int32) : gi (si σ 7 12 v) 7 13 = gi σ 7 13 := by simp [gi, si, up2]
theorem q11 (σ σ1 σ2 : St) (v w : Int32) (h1 : σ1 = si σ 7 12 v) (h2 : σ2 = si σ1 7 13 w) : gi σ2 7 12 = v := by subst h1 h2; simp [gi, si, up2]
theorem q12 (a : Int32) (h : 0 ≤ a) : ((a.toNatClampNeg : Nat) : Int) = a.toInt := by grind
theorem q13 (a : Int32) : -2147483648 ≤ a.toInt ∧ a.toInt < 2147483648 := by grind
theorem q14 (a b : Int32) (h3 : ¬ b < 0) (h4 : ¬ 16 ≤ b) (h5 : 0 ≤ a) (h6 : a < 3000): vp_in (a * 16 + b) 48000 := by rw [vp_in_iff]; grind
theorem q15 (a b : Int32) (h3 : ¬ b < 0) (h4 : ¬ 10 ≤ b) (h5 : 0 ≤ a) (h6 : a < 26): vp_in (a * 10 + b) 260 := by
  rw [vp_in_iff]; grind
theorem q16 (a : Int32) : ∃ n : Nat, n < 16 ∧ a &&& 15 = Int32.ofNat n := by
  exact pk_andE a 4 (by decide)
