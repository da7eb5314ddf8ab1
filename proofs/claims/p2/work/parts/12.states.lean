theorem gi_si (σ : St) (q k : Nat) (v : Int32) (q' k' : Nat) : gi (si σ q k v) q' k' = if q' = q ∧ k' = k then v else gi σ q' k' := rfl
theorem gi_sl (σ : St) (q k : Nat) (v : Int64) (q' k' : Nat) : gi (sl σ q k v) q' k' = gi σ q' k' := rfl
theorem gi_sb (σ : St) (q k : Nat) (v : Bool) (q' k' : Nat) : gi (sb σ q k v) q' k' = gi σ q' k' := rfl
theorem gi_sy (σ : St) (q k : Nat) (v : Int8) (q' k' : Nat) : gi (sy σ q k v) q' k' = gi σ q' k' := rfl
theorem gi_sr (σ : St) (q k : Nat) (v : Nat) (q' k' : Nat) : gi (sr σ q k v) q' k' = gi σ q' k' := rfl
theorem gi_ri (σ : St) (q : Nat) (h : Nat → Int32) (q' k' : Nat) : gi (ri σ q h) q' k' = if q' = q then h k' else gi σ q' k' := rfl
theorem gi_rl (σ : St) (q : Nat) (h : Nat → Int64) (q' k' : Nat) : gi (rl σ q h) q' k' = gi σ q' k' := rfl
theorem gl_si (σ : St) (q k : Nat) (v : Int32) (q' k' : Nat) : gl (si σ q k v) q' k' = gl σ q' k' := rfl
theorem gl_sl (σ : St) (q k : Nat) (v : Int64) (q' k' : Nat) : gl (sl σ q k v) q' k' = if q' = q ∧ k' = k then v else gl σ q' k' := rfl
theorem gl_sb (σ : St) (q k : Nat) (v : Bool) (q' k' : Nat) : gl (sb σ q k v) q' k' = gl σ q' k' := rfl
theorem gl_sy (σ : St) (q k : Nat) (v : Int8) (q' k' : Nat) : gl (sy σ q k v) q' k' = gl σ q' k' := rfl
theorem gl_sr (σ : St) (q k : Nat) (v : Nat) (q' k' : Nat) : gl (sr σ q k v) q' k' = gl σ q' k' := rfl
theorem gl_ri (σ : St) (q : Nat) (h : Nat → Int32) (q' k' : Nat) : gl (ri σ q h) q' k' = gl σ q' k' := rfl
theorem gl_rl (σ : St) (q : Nat) (h : Nat → Int64) (q' k' : Nat) : gl (rl σ q h) q' k' = if q' = q then h k' else gl σ q' k' := rfl
theorem gb_si (σ : St) (q k : Nat) (v : Int32) (q' k' : Nat) : gb (si σ q k v) q' k' = gb σ q' k' := rfl
theorem gb_sl (σ : St) (q k : Nat) (v : Int64) (q' k' : Nat) : gb (sl σ q k v) q' k' = gb σ q' k' := rfl
theorem gb_sb (σ : St) (q k : Nat) (v : Bool) (q' k' : Nat) : gb (sb σ q k v) q' k' = if q' = q ∧ k' = k then v else gb σ q' k' := rfl
theorem gb_sy (σ : St) (q k : Nat) (v : Int8) (q' k' : Nat) : gb (sy σ q k v) q' k' = gb σ q' k' := rfl
theorem gb_sr (σ : St) (q k : Nat) (v : Nat) (q' k' : Nat) : gb (sr σ q k v) q' k' = gb σ q' k' := rfl
theorem gb_ri (σ : St) (q : Nat) (h : Nat → Int32) (q' k' : Nat) : gb (ri σ q h) q' k' = gb σ q' k' := rfl
theorem gb_rl (σ : St) (q : Nat) (h : Nat → Int64) (q' k' : Nat) : gb (rl σ q h) q' k' = gb σ q' k' := rfl
theorem gy_si (σ : St) (q k : Nat) (v : Int32) (q' k' : Nat) : gy (si σ q k v) q' k' = gy σ q' k' := rfl
theorem gy_sl (σ : St) (q k : Nat) (v : Int64) (q' k' : Nat) : gy (sl σ q k v) q' k' = gy σ q' k' := rfl
theorem gy_sb (σ : St) (q k : Nat) (v : Bool) (q' k' : Nat) : gy (sb σ q k v) q' k' = gy σ q' k' := rfl
theorem gy_sy (σ : St) (q k : Nat) (v : Int8) (q' k' : Nat) : gy (sy σ q k v) q' k' = if q' = q ∧ k' = k then v else gy σ q' k' := rfl
theorem gy_sr (σ : St) (q k : Nat) (v : Nat) (q' k' : Nat) : gy (sr σ q k v) q' k' = gy σ q' k' := rfl
theorem gy_ri (σ : St) (q : Nat) (h : Nat → Int32) (q' k' : Nat) : gy (ri σ q h) q' k' = gy σ q' k' := rfl
theorem gy_rl (σ : St) (q : Nat) (h : Nat → Int64) (q' k' : Nat) : gy (rl σ q h) q' k' = gy σ q' k' := rfl
theorem gr_si (σ : St) (q k : Nat) (v : Int32) (q' k' : Nat) : gr (si σ q k v) q' k' = gr σ q' k' := rfl
theorem gr_sl (σ : St) (q k : Nat) (v : Int64) (q' k' : Nat) : gr (sl σ q k v) q' k' = gr σ q' k' := rfl
theorem gr_sb (σ : St) (q k : Nat) (v : Bool) (q' k' : Nat) : gr (sb σ q k v) q' k' = gr σ q' k' := rfl
theorem gr_sy (σ : St) (q k : Nat) (v : Int8) (q' k' : Nat) : gr (sy σ q k v) q' k' = gr σ q' k' := rfl
theorem gr_sr (σ : St) (q k : Nat) (v : Nat) (q' k' : Nat) : gr (sr σ q k v) q' k' = if q' = q ∧ k' = k then v else gr σ q' k' := rfl
theorem gr_ri (σ : St) (q : Nat) (h : Nat → Int32) (q' k' : Nat) : gr (ri σ q h) q' k' = gr σ q' k' := rfl
theorem gr_rl (σ : St) (q : Nat) (h : Nat → Int64) (q' k' : Nat) : gr (rl σ q h) q' k' = gr σ q' k' := rfl
theorem oi_inj {x y : Int32} (h : some (Value.int x) = some (Value.int y)) : x = y := by injection h with h; injection h
theorem ol_inj {x y : Int64} (h : some (Value.long x) = some (Value.long y)) : x = y := by injection h with h; injection h
/-- two worlds alike outside the places lo .. hi - 1 -/
def Sm (lo hi : Nat) (σ σ' : St) : Prop := ∀ q k, (q < lo ∨ hi ≤ q) → gi σ' q k = gi σ q k ∧ gl σ' q k = gl σ q k ∧ gb σ' q k = gb σ q k ∧ gy σ' q k = gy σ q k ∧ gr σ' q k = gr σ q k
theorem Sm.rf (lo hi : Nat) (σ : St) : Sm lo hi σ σ := fun _ _ _ => ⟨rfl, rfl, rfl, rfl, rfl⟩
theorem Sm.tr {lo hi : Nat} {a b c : St} (h : Sm lo hi a b) (h' : Sm lo hi b c) : Sm lo hi a c := fun q k z => by
  obtain ⟨a1, a2, a3, a4, a5⟩ := h q k z
  obtain ⟨b1, b2, b3, b4, b5⟩ := h' q k z
  exact ⟨b1.trans a1, b2.trans a2, b3.trans a3, b4.trans a4, b5.trans a5⟩
theorem Sm.wd {lo hi lo' hi' : Nat} {a b : St} (h : Sm lo hi a b) (h1 : lo' ≤ lo) (h2 : hi ≤ hi') : Sm lo' hi' a b := fun q k z => h q k (by omega)
theorem Sm.si {lo hi : Nat} {a b : St} (h : Sm lo hi a b) {q : Nat} (k : Nat) (v : Int32) (h1 : lo ≤ q) (h2 : q < hi) : Sm lo hi a (si b q k v) := h.tr fun q' k' z => by
  have : q' ≠ q := by omega
  simp [gi_si, gl_si, gb_si, gy_si, gr_si, this]
theorem Sm.sl {lo hi : Nat} {a b : St} (h : Sm lo hi a b) {q : Nat} (k : Nat) (v : Int64) (h1 : lo ≤ q) (h2 : q < hi) : Sm lo hi a (sl b q k v) := h.tr fun q' k' z => by
  have : q' ≠ q := by omega
  simp [gi_sl, gl_sl, gb_sl, gy_sl, gr_sl, this]
theorem Sm.sb {lo hi : Nat} {a b : St} (h : Sm lo hi a b) {q : Nat} (k : Nat) (v : Bool) (h1 : lo ≤ q) (h2 : q < hi) : Sm lo hi a (sb b q k v) := h.tr fun q' k' z => by
  have : q' ≠ q := by omega
  simp [gi_sb, gl_sb, gb_sb, gy_sb, gr_sb, this]
theorem Sm.sy {lo hi : Nat} {a b : St} (h : Sm lo hi a b) {q : Nat} (k : Nat) (v : Int8) (h1 : lo ≤ q) (h2 : q < hi) : Sm lo hi a (sy b q k v) := h.tr fun q' k' z => by
  have : q' ≠ q := by omega
  simp [gi_sy, gl_sy, gb_sy, gy_sy, gr_sy, this]
theorem Sm.sr {lo hi : Nat} {a b : St} (h : Sm lo hi a b) {q : Nat} (k : Nat) (v : Nat) (h1 : lo ≤ q) (h2 : q < hi) : Sm lo hi a (sr b q k v) := h.tr fun q' k' z => by
  have : q' ≠ q := by omega
  simp [gi_sr, gl_sr, gb_sr, gy_sr, gr_sr, this]
theorem Sm.ri {lo hi : Nat} {a b : St} (h : Sm lo hi a b) {q : Nat} (g : Nat → Int32) (h1 : lo ≤ q) (h2 : q < hi) : Sm lo hi a (ri b q g) := h.tr fun q' k' z => by
  have : q' ≠ q := by omega
  simp [gi_ri, gl_ri, gb_ri, gy_ri, gr_ri, this]
theorem Sm.rl {lo hi : Nat} {a b : St} (h : Sm lo hi a b) {q : Nat} (g : Nat → Int64) (h1 : lo ≤ q) (h2 : q < hi) : Sm lo hi a (rl b q g) := h.tr fun q' k' z => by
  have : q' ≠ q := by omega
  simp [gi_rl, gl_rl, gb_rl, gy_rl, gr_rl, this]
theorem Sm.gi {lo hi : Nat} {a b : St} (h : Sm lo hi a b) {q : Nat} (k : Nat) (z : q < lo ∨ hi ≤ q) : gi b q k = gi a q k := (h q k z).1
theorem Sm.gl {lo hi : Nat} {a b : St} (h : Sm lo hi a b) {q : Nat} (k : Nat) (z : q < lo ∨ hi ≤ q) : gl b q k = gl a q k := (h q k z).2.1
theorem Sm.gb {lo hi : Nat} {a b : St} (h : Sm lo hi a b) {q : Nat} (k : Nat) (z : q < lo ∨ hi ≤ q) : gb b q k = gb a q k := (h q k z).2.2.1
theorem Sm.gy {lo hi : Nat} {a b : St} (h : Sm lo hi a b) {q : Nat} (k : Nat) (z : q < lo ∨ hi ≤ q) : gy b q k = gy a q k := (h q k z).2.2.2.1
theorem Sm.gr {lo hi : Nat} {a b : St} (h : Sm lo hi a b) {q : Nat} (k : Nat) (z : q < lo ∨ hi ≤ q) : gr b q k = gr a q k := (h q k z).2.2.2.2
theorem nle_mx {a b : Int32} (h : ¬ b ≤ a) : a.toInt < 2147483647 := by
  rw [Int32.le_iff_toInt_le] at h
  have := Int32.toInt_lt b
  omega
theorem nxq_gi_si {s σ : St} {q k q' k' : Nat} {v : Int32} (h : s = si σ q k v) (hq : q' ≠ q) : gi s q' k' = gi σ q' k' := by subst h; simp [gi_si, hq]
theorem nxk_gi_si {s σ : St} {q k q' k' : Nat} {v : Int32} (h : s = si σ q k v) (hq : k' ≠ k) : gi s q' k' = gi σ q' k' := by subst h; simp [gi_si, hq]
theorem nxe_gi_si {s σ : St} {q k : Nat} {v : Int32} (h : s = si σ q k v) : gi s q k = v := by subst h; simp [gi_si]
theorem nx_gi_sl {s σ : St} {q k q' k' : Nat} {v : Int64} (h : s = sl σ q k v) : gi s q' k' = gi σ q' k' := by subst h; rfl
theorem nx_gi_sb {s σ : St} {q k q' k' : Nat} {v : Bool} (h : s = sb σ q k v) : gi s q' k' = gi σ q' k' := by subst h; rfl
theorem nx_gi_sy {s σ : St} {q k q' k' : Nat} {v : Int8} (h : s = sy σ q k v) : gi s q' k' = gi σ q' k' := by subst h; rfl
theorem nx_gi_sr {s σ : St} {q k q' k' : Nat} {v : Nat} (h : s = sr σ q k v) : gi s q' k' = gi σ q' k' := by subst h; rfl
theorem nxq_gi_ri {s σ : St} {q q' k' : Nat} {v : Nat → Int32} (h : s = ri σ q v) (hq : q' ≠ q) : gi s q' k' = gi σ q' k' := by subst h; simp [gi_ri, hq]
theorem nx_gi_rl {s σ : St} {q q' k' : Nat} {v : Nat → Int64} (h : s = rl σ q v) : gi s q' k' = gi σ q' k' := by subst h; rfl
theorem nx_gl_si {s σ : St} {q k q' k' : Nat} {v : Int32} (h : s = si σ q k v) : gl s q' k' = gl σ q' k' := by subst h; rfl
theorem nxq_gl_sl {s σ : St} {q k q' k' : Nat} {v : Int64} (h : s = sl σ q k v) (hq : q' ≠ q) : gl s q' k' = gl σ q' k' := by subst h; simp [gl_sl, hq]
theorem nxk_gl_sl {s σ : St} {q k q' k' : Nat} {v : Int64} (h : s = sl σ q k v) (hq : k' ≠ k) : gl s q' k' = gl σ q' k' := by subst h; simp [gl_sl, hq]
theorem nxe_gl_sl {s σ : St} {q k : Nat} {v : Int64} (h : s = sl σ q k v) : gl s q k = v := by subst h; simp [gl_sl]
theorem nx_gl_sb {s σ : St} {q k q' k' : Nat} {v : Bool} (h : s = sb σ q k v) : gl s q' k' = gl σ q' k' := by subst h; rfl
theorem nx_gl_sy {s σ : St} {q k q' k' : Nat} {v : Int8} (h : s = sy σ q k v) : gl s q' k' = gl σ q' k' := by subst h; rfl
theorem nx_gl_sr {s σ : St} {q k q' k' : Nat} {v : Nat} (h : s = sr σ q k v) : gl s q' k' = gl σ q' k' := by subst h; rfl
theorem nx_gl_ri {s σ : St} {q q' k' : Nat} {v : Nat → Int32} (h : s = ri σ q v) : gl s q' k' = gl σ q' k' := by subst h; rfl
theorem nxq_gl_rl {s σ : St} {q q' k' : Nat} {v : Nat → Int64} (h : s = rl σ q v) (hq : q' ≠ q) : gl s q' k' = gl σ q' k' := by subst h; simp [gl_rl, hq]
theorem nx_gb_si {s σ : St} {q k q' k' : Nat} {v : Int32} (h : s = si σ q k v) : gb s q' k' = gb σ q' k' := by subst h; rfl
theorem nx_gb_sl {s σ : St} {q k q' k' : Nat} {v : Int64} (h : s = sl σ q k v) : gb s q' k' = gb σ q' k' := by subst h; rfl
theorem nxq_gb_sb {s σ : St} {q k q' k' : Nat} {v : Bool} (h : s = sb σ q k v) (hq : q' ≠ q) : gb s q' k' = gb σ q' k' := by subst h; simp [gb_sb, hq]
theorem nxk_gb_sb {s σ : St} {q k q' k' : Nat} {v : Bool} (h : s = sb σ q k v) (hq : k' ≠ k) : gb s q' k' = gb σ q' k' := by subst h; simp [gb_sb, hq]
theorem nxe_gb_sb {s σ : St} {q k : Nat} {v : Bool} (h : s = sb σ q k v) : gb s q k = v := by subst h; simp [gb_sb]
theorem nx_gb_sy {s σ : St} {q k q' k' : Nat} {v : Int8} (h : s = sy σ q k v) : gb s q' k' = gb σ q' k' := by subst h; rfl
theorem nx_gb_sr {s σ : St} {q k q' k' : Nat} {v : Nat} (h : s = sr σ q k v) : gb s q' k' = gb σ q' k' := by subst h; rfl
theorem nx_gb_ri {s σ : St} {q q' k' : Nat} {v : Nat → Int32} (h : s = ri σ q v) : gb s q' k' = gb σ q' k' := by subst h; rfl
theorem nx_gb_rl {s σ : St} {q q' k' : Nat} {v : Nat → Int64} (h : s = rl σ q v) : gb s q' k' = gb σ q' k' := by subst h; rfl
theorem nx_gy_si {s σ : St} {q k q' k' : Nat} {v : Int32} (h : s = si σ q k v) : gy s q' k' = gy σ q' k' := by subst h; rfl
theorem nx_gy_sl {s σ : St} {q k q' k' : Nat} {v : Int64} (h : s = sl σ q k v) : gy s q' k' = gy σ q' k' := by subst h; rfl
theorem nx_gy_sb {s σ : St} {q k q' k' : Nat} {v : Bool} (h : s = sb σ q k v) : gy s q' k' = gy σ q' k' := by subst h; rfl
theorem nxq_gy_sy {s σ : St} {q k q' k' : Nat} {v : Int8} (h : s = sy σ q k v) (hq : q' ≠ q) : gy s q' k' = gy σ q' k' := by subst h; simp [gy_sy, hq]
theorem nxk_gy_sy {s σ : St} {q k q' k' : Nat} {v : Int8} (h : s = sy σ q k v) (hq : k' ≠ k) : gy s q' k' = gy σ q' k' := by subst h; simp [gy_sy, hq]
theorem nxe_gy_sy {s σ : St} {q k : Nat} {v : Int8} (h : s = sy σ q k v) : gy s q k = v := by subst h; simp [gy_sy]
theorem nx_gy_sr {s σ : St} {q k q' k' : Nat} {v : Nat} (h : s = sr σ q k v) : gy s q' k' = gy σ q' k' := by subst h; rfl
theorem nx_gy_ri {s σ : St} {q q' k' : Nat} {v : Nat → Int32} (h : s = ri σ q v) : gy s q' k' = gy σ q' k' := by subst h; rfl
theorem nx_gy_rl {s σ : St} {q q' k' : Nat} {v : Nat → Int64} (h : s = rl σ q v) : gy s q' k' = gy σ q' k' := by subst h; rfl
theorem nx_gr_si {s σ : St} {q k q' k' : Nat} {v : Int32} (h : s = si σ q k v) : gr s q' k' = gr σ q' k' := by subst h; rfl
theorem nx_gr_sl {s σ : St} {q k q' k' : Nat} {v : Int64} (h : s = sl σ q k v) : gr s q' k' = gr σ q' k' := by subst h; rfl
theorem nx_gr_sb {s σ : St} {q k q' k' : Nat} {v : Bool} (h : s = sb σ q k v) : gr s q' k' = gr σ q' k' := by subst h; rfl
theorem nx_gr_sy {s σ : St} {q k q' k' : Nat} {v : Int8} (h : s = sy σ q k v) : gr s q' k' = gr σ q' k' := by subst h; rfl
theorem nxq_gr_sr {s σ : St} {q k q' k' : Nat} {v : Nat} (h : s = sr σ q k v) (hq : q' ≠ q) : gr s q' k' = gr σ q' k' := by subst h; simp [gr_sr, hq]
theorem nxk_gr_sr {s σ : St} {q k q' k' : Nat} {v : Nat} (h : s = sr σ q k v) (hq : k' ≠ k) : gr s q' k' = gr σ q' k' := by subst h; simp [gr_sr, hq]
theorem nxe_gr_sr {s σ : St} {q k : Nat} {v : Nat} (h : s = sr σ q k v) : gr s q k = v := by subst h; simp [gr_sr]
theorem nx_gr_ri {s σ : St} {q q' k' : Nat} {v : Nat → Int32} (h : s = ri σ q v) : gr s q' k' = gr σ q' k' := by subst h; rfl
theorem nx_gr_rl {s σ : St} {q q' k' : Nat} {v : Nat → Int64} (h : s = rl σ q v) : gr s q' k' = gr σ q' k' := by subst h; rfl
theorem i_addT {x y v : Int32} (h : x + y = v) : -2147483648 ≤ x.toInt + y.toInt → x.toInt + y.toInt < 2147483648 → v.toInt = x.toInt + y.toInt := by
  subst h; intro h1 h2; rw [Int32.toInt_add]; exact Int.bmod_eq_of_le (by omega) (by omega)
theorem i_subT {x y v : Int32} (h : x - y = v) : -2147483648 ≤ x.toInt - y.toInt → x.toInt - y.toInt < 2147483648 → v.toInt = x.toInt - y.toInt := by
  subst h; intro h1 h2; rw [Int32.toInt_sub]; exact Int.bmod_eq_of_le (by omega) (by omega)
theorem i_mulT {x y v : Int32} (h : x * y = v) : -2147483648 ≤ x.toInt * y.toInt → x.toInt * y.toInt < 2147483648 → v.toInt = x.toInt * y.toInt := by
  subst h; intro h1 h2; rw [Int32.toInt_mul]; exact Int.bmod_eq_of_le (by omega) (by omega)
theorem i_negT {x v : Int32} (h : -x = v) : -2147483648 < x.toInt → v.toInt = -x.toInt := by
  subst h; intro h1; have := Int32.toInt_lt x; rw [Int32.toInt_neg]; exact Int.bmod_eq_of_le (by omega) (by omega)
theorem i_divT {x y v : Int32} (h : x / y = v) : 0 ≤ x.toInt → 0 < y.toInt → v.toInt = x.toInt / y.toInt := by
  subst h; intro h1 h2
  rw [Int32.toInt_div_of_ne_right _ _ (fun q => by rw [q] at h2; exact absurd h2 (by decide)), Int.tdiv_eq_ediv_of_nonneg h1]
theorem i_remT {x y v : Int32} (h : x - x / y * y = v) : True := trivial
theorem and_bd {a b : BitVec 32} (h : 0 ≤ b.toInt) : 0 ≤ (a &&& b).toInt ∧ (a &&& b).toInt ≤ b.toInt := by
  have hb : b.toNat < 2147483648 := by
    rw [BitVec.toInt_eq_toNat_cond] at h
    split at h <;> omega
  have h1 : (a &&& b).toNat ≤ b.toNat := by rw [BitVec.toNat_and]; exact Nat.and_le_right
  rw [BitVec.toInt_eq_toNat_cond, BitVec.toInt_eq_toNat_cond]
  split <;> split <;> omega
theorem i_andT {x y v : Int32} (h : x &&& y = v) : (0 ≤ y.toInt → 0 ≤ v.toInt ∧ v.toInt ≤ y.toInt) ∧ (0 ≤ x.toInt → 0 ≤ v.toInt ∧ v.toInt ≤ x.toInt) := by
  subst h
  refine ⟨fun h => ?_, fun h => ?_⟩
  · exact and_bd (a := x.toBitVec) (b := y.toBitVec) h
  · have e : x &&& y = y &&& x := by apply Int32.toBitVec_inj.mp; show x.toBitVec &&& y.toBitVec = y.toBitVec &&& x.toBitVec; exact BitVec.and_comm _ _
    rw [e]
    exact and_bd (a := y.toBitVec) (b := x.toBitVec) h
theorem i_maxI {x y v : Int32} (h : (if x < y then y else x) = v) : x.toInt ≤ v.toInt ∧ y.toInt ≤ v.toInt ∧ (v.toInt = x.toInt ∨ v.toInt = y.toInt) := by
  subst h; split <;> rename_i h <;> rw [Int32.lt_iff_toInt_lt] at h <;> omega
theorem i_minI {x y v : Int32} (h : (if y < x then y else x) = v) : v.toInt ≤ x.toInt ∧ v.toInt ≤ y.toInt ∧ (v.toInt = x.toInt ∨ v.toInt = y.toInt) := by
  subst h; split <;> rename_i h <;> rw [Int32.lt_iff_toInt_lt] at h <;> omega
theorem i_absI {x v : Int32} (h : (if 0 ≤ x then x else 0 - x) = v) : True := trivial
theorem i_maxL {x y v : Int64} (h : (if y < x then x else y) = v) : x.toInt ≤ v.toInt ∧ y.toInt ≤ v.toInt ∧ (v.toInt = x.toInt ∨ v.toInt = y.toInt) := by
  subst h; split <;> rename_i h <;> rw [Int64.lt_iff_toInt_lt] at h <;> omega
theorem i_minL {x y v : Int64} (h : (if y < x then y else x) = v) : v.toInt ≤ x.toInt ∧ v.toInt ≤ y.toInt ∧ (v.toInt = x.toInt ∨ v.toInt = y.toInt) := by
  subst h; split <;> rename_i h <;> rw [Int64.lt_iff_toInt_lt] at h <;> omega
theorem i_absL {x v : Int64} (h : (if 0 < x then x else -x) = v) : True := trivial
theorem n_1 : (-1 : Int32).toInt = -1 := by decide
theorem n_2 : (-2 : Int32).toInt = -2 := by decide
theorem n_8 : (-8 : Int32).toInt = -8 := by decide
theorem pI {P : Int32 → Prop} {x : Int32} (h : ∃ y, some (Value.int x) = some (Value.int y) ∧ P y) : P x := by obtain ⟨y, e, h⟩ := h; rw [oi_inj e]; exact h
theorem pL {P : Int64 → Prop} {x : Int64} (h : ∃ y, some (Value.long x) = some (Value.long y) ∧ P y) : P x := by obtain ⟨y, e, h⟩ := h; rw [ol_inj e]; exact h
theorem pB {P : Bool → Prop} {x : Int32} (h : ∃ b, some (Value.int x) = some (Value.int (bI b)) ∧ P b) : ∃ b, x = bI b ∧ P b := by obtain ⟨y, e, h⟩ := h; exact ⟨y, oi_inj e, h⟩
theorem iff_t {b : Bool} {P : Prop} (c : b = true ↔ P) (h : b = true) : P := c.mp h
theorem iff_f {b : Bool} {P : Prop} (c : b = true ↔ P) (h : b = false) : ¬ P := fun p => by rw [c.mpr p] at h; cases h
theorem i_cmpT {x y : Int64} {v : Int32} (h : lg_cmp x y = v) : (v.toInt < 0 ∧ x.toInt < y.toInt) ∨ (v.toInt = 0 ∧ x.toInt = y.toInt) ∨ (0 < v.toInt ∧ y.toInt < x.toInt) := by
  subst h
  have h0 := @k_cmp0 x y
  have h1 := @k_cmp1 x y
  rw [Int32.lt_iff_toInt_lt, Int64.lt_iff_toInt_lt] at h0 h1
  simp only [Int32.reduceToInt] at h0 h1
  omega
theorem lb_maxI : Cond.static Lib.Math.max.name ∈ allW ∧ Cond.initialized "java/lang/Math" ∈ allW ∧ Cond.code Lib.Math.max.name Lib.Math.max.code 2 (some .int) ∈ allW := ⟨(allW_in (kT_6 _ (List.mem_of_getElem? (i := 40) rfl)) rfl), (allW_in (kT_1 _ (List.mem_of_getElem? (i := 23) rfl)) rfl), (allW_in (kT_6 _ (List.mem_of_getElem? (i := 41) rfl)) rfl)⟩
theorem lb_minI : Cond.static Lib.Math.min.name ∈ allW ∧ Cond.initialized "java/lang/Math" ∈ allW ∧ Cond.code Lib.Math.min.name Lib.Math.min.code 2 (some .int) ∈ allW := ⟨(allW_in (kT_3 _ (List.mem_of_getElem? (i := 230) rfl)) rfl), (allW_in (kT_1 _ (List.mem_of_getElem? (i := 23) rfl)) rfl), (allW_in (kT_3 _ (List.mem_of_getElem? (i := 231) rfl)) rfl)⟩
theorem lb_absI : Cond.static Lib.Math.abs.name ∈ allW ∧ Cond.initialized "java/lang/Math" ∈ allW ∧ Cond.code Lib.Math.abs.name Lib.Math.abs.code 1 (some .int) ∈ allW := ⟨(allW_in (kT_8 _ (List.mem_of_getElem? (i := 169) rfl)) rfl), (allW_in (kT_1 _ (List.mem_of_getElem? (i := 23) rfl)) rfl), (allW_in (kT_8 _ (List.mem_of_getElem? (i := 170) rfl)) rfl)⟩
theorem lb_maxL : Cond.static Lib.MathLoose.max_long.x ∈ allW ∧ Cond.initialized "java/lang/Math" ∈ allW ∧ Cond.code Lib.MathLoose.max_long.x Lib.MathLoose.max_long.code 4 (some .long) ∈ allW := ⟨(allW_in (kT_5 _ (List.mem_of_getElem? (i := 95) rfl)) rfl), (allW_in (kT_1 _ (List.mem_of_getElem? (i := 23) rfl)) rfl), (allW_in (kT_5 _ (List.mem_of_getElem? (i := 96) rfl)) rfl)⟩
theorem lb_minL : Cond.static Lib.MathLoose.min_long.x ∈ allW ∧ Cond.initialized "java/lang/Math" ∈ allW ∧ Cond.code Lib.MathLoose.min_long.x Lib.MathLoose.min_long.code 4 (some .long) ∈ allW := ⟨(allW_in (kT_7 _ (List.mem_of_getElem? (i := 48) rfl)) rfl), (allW_in (kT_1 _ (List.mem_of_getElem? (i := 23) rfl)) rfl), (allW_in (kT_7 _ (List.mem_of_getElem? (i := 49) rfl)) rfl)⟩
theorem lb_absL : Cond.static Lib.MathLoose.abs_long.x ∈ allW ∧ Cond.initialized "java/lang/Math" ∈ allW ∧ Cond.code Lib.MathLoose.abs_long.x Lib.MathLoose.abs_long.code 2 (some .long) ∈ allW := ⟨(allW_in (kT_5 _ (List.mem_of_getElem? (i := 50) rfl)) rfl), (allW_in (kT_1 _ (List.mem_of_getElem? (i := 23) rfl)) rfl), (allW_in (kT_5 _ (List.mem_of_getElem? (i := 51) rfl)) rfl)⟩
theorem lb_copy : Cond.native arraycopyName ∈ allW ∧ Cond.static arraycopyName ∈ allW ∧ Cond.initialized "java/lang/System" ∈ allW := ⟨(allW_in (kT_7 _ (List.mem_of_getElem? (i := 24) rfl)) rfl), (allW_in (kT_7 _ (List.mem_of_getElem? (i := 23) rfl)) rfl), (allW_in (kT_1 _ (List.mem_of_getElem? (i := 27) rfl)) rfl)⟩
section PM6
variable {G : kG9} {M : MT} {Z : ZT} {B : Blk} {lv lv' : List (Nat × Value)} {st : List Value} {σ : St} {pc : Nat}
/-- room for the library's own small methods -/
def ZS (Z : ZT) : Prop := 1 ≤ Z.1.frames ∧ 300 ≤ Z.1.locals ∧ Z.2.1 ≤ Z.1.cells ∧ Z.2.2.1 ≤ Z.1.slots
theorem zs {G : kG9} {M : MT} {d : Nat} {Q : Option Value → St → Prop} : ZS (ZM G M d Q) := ⟨by show 1 ≤ d + 4; omega, by show 300 ≤ 64 * d + 400; omega, Nat.le_refl _, Nat.le_refl _⟩
theorem catl (G : kG9) (st : List Value) : ((st.map (cv G)).map fun v => v.category).sum = (st.map fun v => v.category).sum := by rw [List.map_map, show ((fun v => Value.category v) ∘ cv G) = fun v => Value.category v from funext fun v => cv_cat G v]
theorem wa_maxI {idx : Nat} {x y : Int32} (hz : ZS Z) (h1 : Cond.methodLink M.2.2.2.2.1 idx Lib.Math.max.name ∈ allW) (hW : (st.map fun v => v.category).sum ≤ 100) (kk : WA G M Z B lv (.int (if x < y then y else x) :: st) σ) : WA G M Z ((pc, .invokestatic idx, 3) :: B) lv (.int y :: .int x :: st) σ := by
  refine ⟨List.cons_ne_nil _ _, fun hB p e s m args below meth c H locs A ls hc hx hw hl => ?_⟩
  have k9 := kk.2 hB.tl p e s m args below meth c H locs A ls hc hx hw hl
  rw [hB.nx kk.1] at k9
  have ht : ∀ w ∈ allW, w.before args s = true := fun w h => hc.2.2.2.2.2.1 w (List.mem_cons_of_mem _ h)
  exact va_mmax hc.1 hc.2.1 (hc.2.2.2.1.trans hl.1.symm) hc.2.2.2.2.1 (ht _ h1) (ht _ lb_maxI.1) (ht _ lb_maxI.2.1) (ht _ lb_maxI.2.2) hz.1 (by rw [catl]; have := hz.2.1; omega) hz.2.2.1 hz.2.2.2 hB.dec k9
theorem wa_minI {idx : Nat} {x y : Int32} (hz : ZS Z) (h1 : Cond.methodLink M.2.2.2.2.1 idx Lib.Math.min.name ∈ allW) (hW : (st.map fun v => v.category).sum ≤ 100) (kk : WA G M Z B lv (.int (if y < x then y else x) :: st) σ) : WA G M Z ((pc, .invokestatic idx, 3) :: B) lv (.int y :: .int x :: st) σ := by
  refine ⟨List.cons_ne_nil _ _, fun hB p e s m args below meth c H locs A ls hc hx hw hl => ?_⟩
  have k9 := kk.2 hB.tl p e s m args below meth c H locs A ls hc hx hw hl
  rw [hB.nx kk.1] at k9
  have ht : ∀ w ∈ allW, w.before args s = true := fun w h => hc.2.2.2.2.2.1 w (List.mem_cons_of_mem _ h)
  exact va_mmin hc.1 hc.2.1 (hc.2.2.2.1.trans hl.1.symm) hc.2.2.2.2.1 (ht _ h1) (ht _ lb_minI.1) (ht _ lb_minI.2.1) (ht _ lb_minI.2.2) hz.1 (by rw [catl]; have := hz.2.1; omega) hz.2.2.1 hz.2.2.2 hB.dec k9
theorem wa_absI {idx : Nat} {x : Int32} (hz : ZS Z) (h1 : Cond.methodLink M.2.2.2.2.1 idx Lib.Math.abs.name ∈ allW) (hW : (st.map fun v => v.category).sum ≤ 100) (kk : WA G M Z B lv (.int (if 0 ≤ x then x else 0 - x) :: st) σ) : WA G M Z ((pc, .invokestatic idx, 3) :: B) lv (.int x :: st) σ := by
  refine ⟨List.cons_ne_nil _ _, fun hB p e s m args below meth c H locs A ls hc hx hw hl => ?_⟩
  have k9 := kk.2 hB.tl p e s m args below meth c H locs A ls hc hx hw hl
  rw [hB.nx kk.1] at k9
  have ht : ∀ w ∈ allW, w.before args s = true := fun w h => hc.2.2.2.2.2.1 w (List.mem_cons_of_mem _ h)
  exact va_mabs hc.1 hc.2.1 (hc.2.2.2.1.trans hl.1.symm) hc.2.2.2.2.1 (ht _ h1) (ht _ lb_absI.1) (ht _ lb_absI.2.1) (ht _ lb_absI.2.2) hz.1 (by rw [catl]; have := hz.2.1; omega) hz.2.2.1 hz.2.2.2 hB.dec k9
theorem wa_maxL {idx : Nat} {x y : Int64} (hz : ZS Z) (h1 : Cond.methodLink M.2.2.2.2.1 idx Lib.MathLoose.max_long.x ∈ allW) (hW : (st.map fun v => v.category).sum ≤ 100) (kk : WA G M Z B lv (.long (if y < x then x else y) :: st) σ) : WA G M Z ((pc, .invokestatic idx, 3) :: B) lv (.long y :: .long x :: st) σ := by
  refine ⟨List.cons_ne_nil _ _, fun hB p e s m args below meth c H locs A ls hc hx hw hl => ?_⟩
  have k9 := kk.2 hB.tl p e s m args below meth c H locs A ls hc hx hw hl
  rw [hB.nx kk.1] at k9
  have ht : ∀ w ∈ allW, w.before args s = true := fun w h => hc.2.2.2.2.2.1 w (List.mem_cons_of_mem _ h)
  exact va_mmax_long hc.1 hc.2.1 (hc.2.2.2.1.trans hl.1.symm) hc.2.2.2.2.1 (ht _ h1) (ht _ lb_maxL.1) (ht _ lb_maxL.2.1) (ht _ lb_maxL.2.2) hz.1 (by rw [catl]; have := hz.2.1; omega) hz.2.2.1 hz.2.2.2 hB.dec k9
theorem wa_minL {idx : Nat} {x y : Int64} (hz : ZS Z) (h1 : Cond.methodLink M.2.2.2.2.1 idx Lib.MathLoose.min_long.x ∈ allW) (hW : (st.map fun v => v.category).sum ≤ 100) (kk : WA G M Z B lv (.long (if y < x then y else x) :: st) σ) : WA G M Z ((pc, .invokestatic idx, 3) :: B) lv (.long y :: .long x :: st) σ := by
  refine ⟨List.cons_ne_nil _ _, fun hB p e s m args below meth c H locs A ls hc hx hw hl => ?_⟩
  have k9 := kk.2 hB.tl p e s m args below meth c H locs A ls hc hx hw hl
  rw [hB.nx kk.1] at k9
  have ht : ∀ w ∈ allW, w.before args s = true := fun w h => hc.2.2.2.2.2.1 w (List.mem_cons_of_mem _ h)
  exact va_mmin_long hc.1 hc.2.1 (hc.2.2.2.1.trans hl.1.symm) hc.2.2.2.2.1 (ht _ h1) (ht _ lb_minL.1) (ht _ lb_minL.2.1) (ht _ lb_minL.2.2) hz.1 (by rw [catl]; have := hz.2.1; omega) hz.2.2.1 hz.2.2.2 hB.dec k9
theorem wa_absL {idx : Nat} {x : Int64} (hz : ZS Z) (h1 : Cond.methodLink M.2.2.2.2.1 idx Lib.MathLoose.abs_long.x ∈ allW) (hW : (st.map fun v => v.category).sum ≤ 100) (kk : WA G M Z B lv (.long (if 0 < x then x else -x) :: st) σ) : WA G M Z ((pc, .invokestatic idx, 3) :: B) lv (.long x :: st) σ := by
  refine ⟨List.cons_ne_nil _ _, fun hB p e s m args below meth c H locs A ls hc hx hw hl => ?_⟩
  have k9 := kk.2 hB.tl p e s m args below meth c H locs A ls hc hx hw hl
  rw [hB.nx kk.1] at k9
  have ht : ∀ w ∈ allW, w.before args s = true := fun w h => hc.2.2.2.2.2.1 w (List.mem_cons_of_mem _ h)
  exact va_mabs_long hc.1 hc.2.1 (hc.2.2.2.1.trans hl.1.symm) hc.2.2.2.2.1 (ht _ h1) (ht _ lb_absL.1) (ht _ lb_absL.2.1) (ht _ lb_absL.2.2) hz.1 (by rw [catl]; have := hz.2.1; omega) hz.2.2.1 hz.2.2.2 hB.dec k9
theorem cp_room {n R : Nat} (h : 300 ≤ R) (hW : n ≤ 100) : n + (nativeFrameWords "java/lang/System" "arraycopy" 5 + 11) ≤ R := by
  have e : nativeFrameWords "java/lang/System" "arraycopy" 5 + 11 ≤ 100 := by decide
  omega
theorem wa_copyI {idx q0 q1 n0 n1 : Nat} {sp dp n : Int32} (hz : ZS Z) (hq0 : layL.getD q0 (9, 0) = (1, n0)) (hq1 : layL.getD q1 (9, 0) = (1, n1)) (h1 : Cond.methodLink M.2.2.2.2.1 idx arraycopyName ∈ allW) (c1 : ¬ sp < 0) (c2 : ¬ dp < 0) (c3 : ¬ n < 0) (c4 : sp.toNatClampNeg + n.toNatClampNeg ≤ n0) (c5 : dp.toNatClampNeg + n.toNatClampNeg ≤ n1) (hW : (st.map fun v => v.category).sum ≤ 100)
    (kk : ∀ σ', σ' = ri σ q1 (va_cpy (gi σ q0) (gi σ q1) sp.toNatClampNeg dp.toNatClampNeg n.toNatClampNeg) → WA G M Z B lv st σ') : WA G M Z ((pc, .invokestatic idx, 3) :: B) lv (.int n :: .int dp :: .ref q1 :: .int sp :: .ref q0 :: st) σ := by
  refine ⟨List.cons_ne_nil _ _, fun hB p e s m args below meth c H locs A ls hc hx hw hl => ?_⟩
  have ht : ∀ w ∈ allW, w.before args s = true := fun w h => hc.2.2.2.2.2.1 w (List.mem_cons_of_mem _ h)
  refine va_copyi hc.1 hc.2.1 (hc.2.2.2.1.trans hl.1.symm) hc.2.2.2.2.1 (ht _ h1) (ht _ lb_copy.1) (ht _ lb_copy.2.1) (ht _ lb_copy.2.2) hc.2.2.2.2.2.2.2.2.2.2.1 hw.1 hw.2.1 hw.2.2 q0 q1 0 0 (by rw [ws9_at G σ (lay_lt hq0 (by simp)), wcell_1 G σ hq0]) (by rw [ws9_at G σ (lay_lt hq1 (by simp)), wcell_1 G σ hq1]) rfl rfl rfl c1 c2 c3 c4 c5 (fun _ _ => rfl) hz.1 (by rw [catl]; exact cp_room hz.2.1 hW) hB.dec (fun H1 locs1 hP1 hD1 hS1 => ?_)
  have e9 : gi (ri σ q1 (va_cpy (gi σ q0) (gi σ q1) sp.toNatClampNeg dp.toNatClampNeg n.toNatClampNeg)) q1 = va_cpy (gi σ q0) (gi σ q1) sp.toNatClampNeg dp.toNatClampNeg n.toNatClampNeg := by funext j; simp [gi, ri, upr]
  rw [← e9, ← wcell_1 G _ hq1, ws9_set G (fun q' h => ri_other G σ _ h)] at hP1 hD1
  have k0 := kk _ rfl
  have k9 := k0.2 hB.tl p e s m args below meth c H1 locs1 A ls hc hx ⟨hP1, hD1, hS1⟩ hl
  rw [hB.nx k0.1] at k9
  exact k9
theorem wa_copyL {idx q0 q1 n0 n1 : Nat} {sp dp n : Int32} (hz : ZS Z) (hq0 : layL.getD q0 (9, 0) = (2, n0)) (hq1 : layL.getD q1 (9, 0) = (2, n1)) (h1 : Cond.methodLink M.2.2.2.2.1 idx arraycopyName ∈ allW) (c1 : ¬ sp < 0) (c2 : ¬ dp < 0) (c3 : ¬ n < 0) (c4 : sp.toNatClampNeg + n.toNatClampNeg ≤ n0) (c5 : dp.toNatClampNeg + n.toNatClampNeg ≤ n1) (hW : (st.map fun v => v.category).sum ≤ 100)
    (kk : ∀ σ', σ' = rl σ q1 (va_cpy (gl σ q0) (gl σ q1) sp.toNatClampNeg dp.toNatClampNeg n.toNatClampNeg) → WA G M Z B lv st σ') : WA G M Z ((pc, .invokestatic idx, 3) :: B) lv (.int n :: .int dp :: .ref q1 :: .int sp :: .ref q0 :: st) σ := by
  refine ⟨List.cons_ne_nil _ _, fun hB p e s m args below meth c H locs A ls hc hx hw hl => ?_⟩
  have ht : ∀ w ∈ allW, w.before args s = true := fun w h => hc.2.2.2.2.2.1 w (List.mem_cons_of_mem _ h)
  refine va_copyl hc.1 hc.2.1 (hc.2.2.2.1.trans hl.1.symm) hc.2.2.2.2.1 (ht _ h1) (ht _ lb_copy.1) (ht _ lb_copy.2.1) (ht _ lb_copy.2.2) hc.2.2.2.2.2.2.2.2.2.2.1 hw.1 hw.2.1 hw.2.2 q0 q1 1 1 (by rw [ws9_at G σ (lay_lt hq0 (by simp)), wcell_2 G σ hq0]) (by rw [ws9_at G σ (lay_lt hq1 (by simp)), wcell_2 G σ hq1]) rfl rfl rfl c1 c2 c3 c4 c5 (fun _ _ => rfl) hz.1 (by rw [catl]; exact cp_room hz.2.1 hW) hB.dec (fun H1 locs1 hP1 hD1 hS1 => ?_)
  have e9 : gl (rl σ q1 (va_cpy (gl σ q0) (gl σ q1) sp.toNatClampNeg dp.toNatClampNeg n.toNatClampNeg)) q1 = va_cpy (gl σ q0) (gl σ q1) sp.toNatClampNeg dp.toNatClampNeg n.toNatClampNeg := by funext j; simp [gl, rl, upr]
  rw [← e9, ← wcell_2 G _ hq1, ws9_set G (fun q' h => rl_other G σ _ h)] at hP1 hD1
  have k0 := kk _ rfl
  have k9 := k0.2 hB.tl p e s m args below meth c H1 locs1 A ls hc hx ⟨hP1, hD1, hS1⟩ hl
  rw [hB.nx k0.1] at k9
  exact k9
end PM6
